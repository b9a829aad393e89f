import java.util.NoSuchElementException;

/**
 * A balloon post out of a town that is shut in. What each call does is told by the promises of the document; README.md
 * tells where that is and how the parts of this file hang together.
 */
public final class SiegePost {
    private static final int MAP_END = 39;
    private static final int TOWN_X = 20;
    private static final int TOWN_Y = 20;
    private static final int MOST_RING = 15;
    private static final int HEIGHTS = 6;
    private static final int MOST_WIND = 3;
    private static final int MOST_GAS = 9999;
    private static final int MOST_MADE = 999;
    private static final int MOST_FILLED = 99;
    private static final int LEAST_SIZE = 10;
    private static final int MOST_SIZE = 99;
    private static final int MOST_BALLOONS = 6;
    private static final int MOST_BALLAST = 50;
    private static final int MOST_COURIERS = 2;
    private static final int LEAST_COURIER = 5;
    private static final int MOST_COURIER = 12;
    private static final int MOST_LETTERS = 24;
    private static final int MOST_SHEETS = 9;
    private static final int MOST_RANK = 2;
    private static final int MOST_HOURS = 48;
    private static final int MOST_SIGNS = 60;
    private static final int MOST_UNDONE = 8;

    private static final int IN_TOWN = 0;
    private static final int ALOFT = 1;
    private static final int LANDED = 2;
    private static final int LOST = 3;

    private static final int WAITS = 0;
    private static final int LOADED = 1;
    private static final int DELIVERED = 2;
    private static final int LETTER_LOST = 3;
    private static final int NO_BALLOON = -1;

    private static final int FULL = 1;
    private static final int NOT_IN_TOWN = 2;
    private static final int NOT_ALOFT = 3;
    private static final int TOO_LITTLE_GAS = 4;
    private static final int TOO_MUCH_GAS = 5;
    private static final int TOO_MUCH_BALLAST = 6;
    private static final int TOO_LITTLE_BALLAST = 7;
    private static final int NOT_WAITING = 8;
    private static final int TOO_HEAVY = 9;

    // Failures lie below every answer that a change gives: a wind before, which is the least of them, is -33 at least.
    private static final int NO_SUCH = -101;
    private static final int OUT_OF_RANGE = -102;
    private static final int REFUSED = -103;

    // A balloon loses 1 of gas an hour at least and holds 99 at most, so that no flight is nearly as long as this.
    private static final int FLIGHT_BOUND = 1000;

    private final Town town = new Town();
    private final History history = new History();
    private final Town snapshot = new Town();
    private final Balloon ahead = new Balloon();
    private final OrderText input = new OrderText();
    private boolean hasSnapshot;

    public SiegePost() {
    }

    // Town and winds

    public int ring(int ring) throws IllegalArgumentException {
        history.prepare(town);
        return answerOf(town.setRing(ring));
    }

    public int wind(int height, int x, int y) throws IndexOutOfBoundsException, IllegalArgumentException {
        history.prepare(town);
        return answerOf(town.setWind(height, x, y));
    }

    public int gas(int amount) throws IllegalArgumentException {
        history.prepare(town);
        return answerOf(town.makeGas(amount));
    }

    // Balloons and letters

    public int balloon(int size) throws IllegalArgumentException, UnsupportedOperationException {
        history.prepare(town);
        return answerOf(town.addBalloon(size));
    }

    public int fill(int balloon, int amount)
            throws IndexOutOfBoundsException, IllegalArgumentException, UnsupportedOperationException {
        history.prepare(town);
        return answerOf(town.fillBalloon(balloon, amount));
    }

    public int ballast(int balloon, int amount)
            throws IndexOutOfBoundsException, IllegalArgumentException, UnsupportedOperationException {
        history.prepare(town);
        return answerOf(town.layBallast(balloon, amount));
    }

    public int courier(int balloon, int weight)
            throws IndexOutOfBoundsException, IllegalArgumentException, UnsupportedOperationException {
        history.prepare(town);
        return answerOf(town.addCourier(balloon, weight));
    }

    public int letter(int sheets, int rank) throws IllegalArgumentException, UnsupportedOperationException {
        history.prepare(town);
        return answerOf(town.addLetter(sheets, rank));
    }

    public int load(int letter, int balloon) throws IndexOutOfBoundsException, UnsupportedOperationException {
        history.prepare(town);
        return answerOf(town.loadLetter(letter, balloon));
    }

    public int loadAll(int balloon) throws IndexOutOfBoundsException, UnsupportedOperationException {
        history.prepare(town);
        return answerOf(town.loadWaiting(balloon));
    }

    public int launch(int balloon) throws IndexOutOfBoundsException, UnsupportedOperationException {
        history.prepare(town);
        return answerOf(town.launchBalloon(balloon));
    }

    public int drop(int balloon, int amount)
            throws IndexOutOfBoundsException, IllegalArgumentException, UnsupportedOperationException {
        history.prepare(town);
        return answerOf(town.letBallastGo(balloon, amount));
    }

    public int pass(int hours) throws IllegalArgumentException {
        history.prepare(town);
        return answerOf(town.letHoursGo(hours));
    }

    // What there is

    public int balloonOf(int balloon, int what) throws IndexOutOfBoundsException, IllegalArgumentException {
        needBalloon(balloon);
        if (!isBetween(what, 0, 11)) {
            throw new IllegalArgumentException("what is not from 0 to 11");
        }
        return town.balloons[balloon].numberOf(what);
    }

    public int letterOf(int letter, int what) throws IndexOutOfBoundsException, IllegalArgumentException {
        if (!town.hasLetter(letter)) {
            throw new IndexOutOfBoundsException("there is no such letter");
        }
        if (!isBetween(what, 0, 3)) {
            throw new IllegalArgumentException("what is not from 0 to 3");
        }
        return town.letterNumber(letter, what);
    }

    public int weightAgain(int balloon) throws IndexOutOfBoundsException {
        needBalloon(balloon);
        return town.weightByLetters(balloon);
    }

    public int waiting(int place) throws NoSuchElementException {
        int letter = town.letterAtPlace(place);
        if (letter < 0) {
            throw new NoSuchElementException("there is no such place");
        }
        return letter;
    }

    public int word(int balloon) throws IndexOutOfBoundsException, NoSuchElementException {
        needBalloon(balloon);
        if (!town.balloons[balloon].sendsWord()) {
            throw new NoSuchElementException("it has not landed or has no courier");
        }
        return town.balloons[balloon].wordHour;
    }

    public char sign(int balloon) throws IndexOutOfBoundsException {
        needBalloon(balloon);
        switch (town.balloons[balloon].state) {
            case IN_TOWN:
                return 't';
            case ALOFT:
                return 'a';
            case LANDED:
                return 'l';
            default:
                return 'x';
        }
    }

    public boolean isWithin(int x, int y) throws IndexOutOfBoundsException {
        if (!isOnMap(x, y)) {
            throw new IndexOutOfBoundsException("there is no such place");
        }
        return town.isInRing(x, y);
    }

    // Ahead

    public int endsIn(int balloon) throws IndexOutOfBoundsException, NoSuchElementException {
        needBalloon(balloon);
        needAloft(balloon);
        town.foretell(balloon, 0, ahead);
        return ahead.hoursAloft - town.balloons[balloon].hoursAloft;
    }

    public int ends(int balloon, int what)
            throws IndexOutOfBoundsException, IllegalArgumentException, NoSuchElementException {
        needBalloon(balloon);
        if (!isBetween(what, 0, 2)) {
            throw new IllegalArgumentException("what is not from 0 to 2");
        }
        needAloft(balloon);
        town.foretell(balloon, 0, ahead);
        switch (what) {
            case 0:
                return ahead.x;
            case 1:
                return ahead.y;
            default:
                return ahead.state;
        }
    }

    public int bestDrop(int balloon) throws IndexOutOfBoundsException, NoSuchElementException {
        needBalloon(balloon);
        needAloft(balloon);
        int best = -1;
        int farthest = -1;
        for (int drop = 0; drop <= town.balloons[balloon].ballast; drop++) {
            town.foretell(balloon, drop, ahead);
            if (ahead.state == LANDED && ahead.distance() > farthest) {
                best = drop;
                farthest = ahead.distance();
            }
        }
        if (best < 0) {
            throw new NoSuchElementException("it would be lost with any ballast let go");
        }
        return best;
    }

    // Texts, accounts, undo and snapshot

    public int append(char c) throws IllegalStateException {
        if (!input.add(c)) {
            throw new IllegalStateException("the input is full");
        }
        return input.length;
    }

    public int read() throws IllegalArgumentException, UnsupportedOperationException {
        if (!input.understand()) {
            throw new IllegalArgumentException("the text has an error");
        }
        history.prepare(town);
        for (int i = 0; i < input.orders; i++) {
            int result = carryOut(i);
            if (isFailure(result)) {
                history.takeBack(town);
                // That a number in a text is wrong, whatever it is for, is told as one and the same exception.
                return answerOf(result == REFUSED ? REFUSED : OUT_OF_RANGE);
            }
        }
        return answerOf(input.orders);
    }

    public int errorPosition() {
        return input.errorPosition;
    }

    public int refusal(boolean isDetail) throws NoSuchElementException {
        if (town.refusalReason == 0) {
            throw new NoSuchElementException("nothing was refused");
        }
        return isDetail ? town.refusalDetail : town.refusalReason;
    }

    public int account(int what) throws IllegalArgumentException {
        if (!isBetween(what, 0, 20)) {
            throw new IllegalArgumentException("what is not from 0 to 20");
        }
        if (what == 19) {
            return input.length;
        }
        if (what == 20) {
            return history.count;
        }
        return town.numberOf(what);
    }

    public boolean isWell() {
        return town.ballastLaid == town.ballastLetGo + town.ballastLanded + town.ballastLost + town.ballastHeld();
    }

    public double meanDistance() throws ArithmeticException {
        int landed = town.balloonsIn(LANDED);
        if (landed == 0) {
            throw new ArithmeticException("no balloon landed");
        }
        return (double) town.distancesOfLanded() / (double) landed;
    }

    public float share() throws ArithmeticException {
        int delivered = town.lettersIn(DELIVERED);
        int ended = delivered + town.lettersIn(LETTER_LOST);
        if (ended == 0) {
            throw new ArithmeticException("no letter was delivered or lost");
        }
        return (float) delivered / (float) ended;
    }

    public int undo() throws IllegalStateException {
        if (!history.stepBack(town)) {
            throw new IllegalStateException("no change can be undone");
        }
        return history.count;
    }

    public int save() {
        snapshot.copyFrom(town);
        hasSnapshot = true;
        return town.balloonCount;
    }

    public int restore() throws IllegalStateException {
        if (!hasSnapshot) {
            throw new IllegalStateException("there is no snapshot");
        }
        town.copyFrom(snapshot);
        history.forget();
        return town.balloonCount;
    }

    private void needBalloon(int balloon) {
        if (!town.hasBalloon(balloon)) {
            throw new IndexOutOfBoundsException("there is no such balloon");
        }
    }

    private void needAloft(int balloon) {
        if (town.balloons[balloon].state != ALOFT) {
            throw new NoSuchElementException("the balloon is not aloft");
        }
    }

    /** Ends a change: a failure is thrown, any other result is an answer, and the change can be undone then. */
    private int answerOf(int result) {
        switch (result) {
            case NO_SUCH:
                throw new IndexOutOfBoundsException("there is no such balloon, letter or height");
            case OUT_OF_RANGE:
                throw new IllegalArgumentException("a number is out of range");
            case REFUSED:
                throw new UnsupportedOperationException("refused, refusal tells the reason");
            default:
                history.keep();
                return result;
        }
    }

    private int carryOut(int order) {
        int first = input.first[order];
        int second = input.second[order];
        switch (input.kinds[order]) {
            case 'f':
                return town.fillBalloon(first, second);
            case 'b':
                return town.layBallast(first, second);
            case 'd':
                return town.letBallastGo(first, second);
            case 'l':
                return town.loadLetter(first, second);
            case 'u':
                return town.launchBalloon(first);
            case 'h':
                return town.letHoursGo(first);
            default:
                return town.setWind(first, second, input.third[order]);
        }
    }

    private static boolean isFailure(int result) {
        return result == NO_SUCH || result == OUT_OF_RANGE || result == REFUSED;
    }

    private static boolean isBetween(int number, int least, int most) {
        return number >= least && number <= most;
    }

    private static boolean isOnMap(int x, int y) {
        return isBetween(x, 0, MAP_END) && isBetween(y, 0, MAP_END);
    }

    private static int distanceFromTown(int x, int y) {
        return Math.max(Math.abs(x - TOWN_X), Math.abs(y - TOWN_Y));
    }

    private static final class Letter {
        int sheets;
        int rank;
        int balloon = NO_BALLOON;

        void copyFrom(Letter other) {
            sheets = other.sheets;
            rank = other.rank;
            balloon = other.balloon;
        }
    }

    private static final class Balloon {
        int size;
        int gas;
        int ballast;
        int couriers;
        int courierWeight;
        int letters;
        int sheets;
        int state;
        int height;
        int x = TOWN_X;
        int y = TOWN_Y;
        int hoursAloft;
        int wordHour;

        void copyFrom(Balloon other) {
            size = other.size;
            gas = other.gas;
            ballast = other.ballast;
            couriers = other.couriers;
            courierWeight = other.courierWeight;
            letters = other.letters;
            sheets = other.sheets;
            state = other.state;
            height = other.height;
            x = other.x;
            y = other.y;
            hoursAloft = other.hoursAloft;
            wordHour = other.wordHour;
        }

        int weight() {
            return weightWith(0);
        }

        int weightWith(int moreSheets) {
            return (size + 9) / 10 + ballast + courierWeight + (sheets + moreSheets + 2) / 3;
        }

        int bears() {
            return gas - weightWith(0);
        }

        int distance() {
            return distanceFromTown(x, y);
        }

        boolean sendsWord() {
            return state == LANDED && couriers > 0;
        }

        int numberOf(int what) {
            switch (what) {
                case 0:
                    return size;
                case 1:
                    return gas;
                case 2:
                    return ballast;
                case 3:
                    return couriers;
                case 4:
                    return letters;
                case 5:
                    return weight();
                case 6:
                    return bears();
                case 7:
                    return state;
                case 8:
                    return height;
                case 9:
                    return x;
                case 10:
                    return y;
                default:
                    return hoursAloft;
            }
        }

        void flyAnHour(Town town) {
            hoursAloft++;
            gas -= (gas + 19) / 20;
            int borne = bears();
            if (borne < 0) {
                end(town.isInRing(x, y) ? LOST : LANDED);
                return;
            }
            height = Math.min(borne / 4, HEIGHTS - 1);
            x += town.windX[height];
            y += town.windY[height];
            if (!isOnMap(x, y)) {
                end(LOST);
            }
        }

        private void end(int newState) {
            state = newState;
            height = 0;
        }
    }

    /**
     * All that changes can change. Each change looks at everything that speaks against it before it changes anything.
     * Rows of balloons and letters that are not counted yet are as new, as towns are copied with all their rows.
     */
    private static final class Town {
        final int[] windX = new int[HEIGHTS];
        final int[] windY = new int[HEIGHTS];
        final Balloon[] balloons = new Balloon[MOST_BALLOONS];
        final Letter[] letters = new Letter[MOST_LETTERS];
        int balloonCount;
        int letterCount;
        int hour;
        int ring = 5;
        int gas = 100;
        int ballastLaid;
        int ballastLetGo;
        int ballastLanded;
        int ballastLost;
        int gasLeaked;
        // The latest refusal: copyFrom leaves it as it is, since it is neither undone nor saved.
        int refusalReason;
        int refusalDetail;

        Town() {
            for (int i = 0; i < MOST_BALLOONS; i++) {
                balloons[i] = new Balloon();
            }
            for (int i = 0; i < MOST_LETTERS; i++) {
                letters[i] = new Letter();
            }
        }

        void copyFrom(Town other) {
            for (int i = 0; i < HEIGHTS; i++) {
                windX[i] = other.windX[i];
                windY[i] = other.windY[i];
            }
            for (int i = 0; i < MOST_BALLOONS; i++) {
                balloons[i].copyFrom(other.balloons[i]);
            }
            for (int i = 0; i < MOST_LETTERS; i++) {
                letters[i].copyFrom(other.letters[i]);
            }
            balloonCount = other.balloonCount;
            letterCount = other.letterCount;
            hour = other.hour;
            ring = other.ring;
            gas = other.gas;
            ballastLaid = other.ballastLaid;
            ballastLetGo = other.ballastLetGo;
            ballastLanded = other.ballastLanded;
            ballastLost = other.ballastLost;
            gasLeaked = other.gasLeaked;
        }

        private int refuse(int reason, int detail) {
            refusalReason = reason;
            refusalDetail = detail;
            return REFUSED;
        }

        boolean hasBalloon(int number) {
            return number >= 0 && number < balloonCount;
        }

        boolean hasLetter(int number) {
            return number >= 0 && number < letterCount;
        }

        boolean isInRing(int x, int y) {
            return distanceFromTown(x, y) <= ring;
        }

        int setRing(int newRing) {
            if (!isBetween(newRing, 1, MOST_RING)) {
                return OUT_OF_RANGE;
            }
            int before = ring;
            ring = newRing;
            return before;
        }

        int setWind(int height, int x, int y) {
            if (!isBetween(height, 0, HEIGHTS - 1)) {
                return NO_SUCH;
            }
            if (!isBetween(x, -MOST_WIND, MOST_WIND) || !isBetween(y, -MOST_WIND, MOST_WIND)) {
                return OUT_OF_RANGE;
            }
            int before = 10 * windX[height] + windY[height];
            windX[height] = x;
            windY[height] = y;
            return before;
        }

        int makeGas(int amount) {
            if (!isBetween(amount, 1, MOST_MADE)) {
                return OUT_OF_RANGE;
            }
            gas = Math.min(gas + amount, MOST_GAS);
            return gas;
        }

        int addBalloon(int size) {
            if (!isBetween(size, LEAST_SIZE, MOST_SIZE)) {
                return OUT_OF_RANGE;
            }
            if (balloonCount >= MOST_BALLOONS) {
                return refuse(FULL, MOST_BALLOONS);
            }
            balloons[balloonCount].size = size;
            balloonCount++;
            return balloonCount - 1;
        }

        int fillBalloon(int number, int amount) {
            if (!hasBalloon(number)) {
                return NO_SUCH;
            }
            if (!isBetween(amount, 1, MOST_FILLED)) {
                return OUT_OF_RANGE;
            }
            Balloon balloon = balloons[number];
            if (balloon.state != IN_TOWN) {
                return refuse(NOT_IN_TOWN, number);
            }
            if (amount > gas) {
                return refuse(TOO_LITTLE_GAS, gas);
            }
            int room = balloon.size - balloon.gas;
            if (amount > room) {
                return refuse(TOO_MUCH_GAS, room);
            }
            gas -= amount;
            balloon.gas += amount;
            return balloon.gas;
        }

        int layBallast(int number, int amount) {
            if (!hasBalloon(number)) {
                return NO_SUCH;
            }
            if (!isBetween(amount, 1, MOST_BALLAST)) {
                return OUT_OF_RANGE;
            }
            Balloon balloon = balloons[number];
            if (balloon.state != IN_TOWN) {
                return refuse(NOT_IN_TOWN, number);
            }
            int room = MOST_BALLAST - balloon.ballast;
            if (amount > room) {
                return refuse(TOO_MUCH_BALLAST, room);
            }
            balloon.ballast += amount;
            ballastLaid += amount;
            return balloon.ballast;
        }

        int addCourier(int number, int weight) {
            if (!hasBalloon(number)) {
                return NO_SUCH;
            }
            if (!isBetween(weight, LEAST_COURIER, MOST_COURIER)) {
                return OUT_OF_RANGE;
            }
            Balloon balloon = balloons[number];
            if (balloon.state != IN_TOWN) {
                return refuse(NOT_IN_TOWN, number);
            }
            if (balloon.couriers >= MOST_COURIERS) {
                return refuse(FULL, MOST_COURIERS);
            }
            balloon.couriers++;
            balloon.courierWeight += weight;
            return balloon.couriers;
        }

        int addLetter(int sheets, int rank) {
            if (!isBetween(sheets, 1, MOST_SHEETS) || !isBetween(rank, 0, MOST_RANK)) {
                return OUT_OF_RANGE;
            }
            if (letterCount >= MOST_LETTERS) {
                return refuse(FULL, MOST_LETTERS);
            }
            Letter letter = letters[letterCount];
            letter.sheets = sheets;
            letter.rank = rank;
            letterCount++;
            return letterCount - 1;
        }

        int loadLetter(int number, int into) {
            if (!hasLetter(number) || !hasBalloon(into)) {
                return NO_SUCH;
            }
            if (letters[number].balloon != NO_BALLOON) {
                return refuse(NOT_WAITING, number);
            }
            if (balloons[into].state != IN_TOWN) {
                return refuse(NOT_IN_TOWN, into);
            }
            putInto(number, into);
            return balloons[into].weight();
        }

        int loadWaiting(int into) {
            if (!hasBalloon(into)) {
                return NO_SUCH;
            }
            Balloon balloon = balloons[into];
            if (balloon.state != IN_TOWN) {
                return refuse(NOT_IN_TOWN, into);
            }
            int loaded = 0;
            for (int rank = MOST_RANK; rank >= 0; rank--) {
                for (int i = 0; i < letterCount; i++) {
                    if (isWaiting(i, rank) && balloon.gas >= balloon.weightWith(letters[i].sheets)) {
                        putInto(i, into);
                        loaded++;
                    }
                }
            }
            return loaded;
        }

        private boolean isWaiting(int number, int rank) {
            return letters[number].balloon == NO_BALLOON && letters[number].rank == rank;
        }

        private void putInto(int number, int into) {
            letters[number].balloon = into;
            balloons[into].letters++;
            balloons[into].sheets += letters[number].sheets;
        }

        int launchBalloon(int number) {
            if (!hasBalloon(number)) {
                return NO_SUCH;
            }
            Balloon balloon = balloons[number];
            if (balloon.state != IN_TOWN) {
                return refuse(NOT_IN_TOWN, number);
            }
            if (balloon.bears() < 0) {
                return refuse(TOO_HEAVY, -balloon.bears());
            }
            balloon.state = ALOFT;
            return balloon.bears();
        }

        int letBallastGo(int number, int amount) {
            if (!hasBalloon(number)) {
                return NO_SUCH;
            }
            if (!isBetween(amount, 1, MOST_BALLAST)) {
                return OUT_OF_RANGE;
            }
            Balloon balloon = balloons[number];
            if (balloon.state != ALOFT) {
                return refuse(NOT_ALOFT, number);
            }
            if (amount > balloon.ballast) {
                return refuse(TOO_LITTLE_BALLAST, balloon.ballast);
            }
            balloon.ballast -= amount;
            ballastLetGo += amount;
            return balloon.ballast;
        }

        int letHoursGo(int hours) {
            if (!isBetween(hours, 1, MOST_HOURS)) {
                return OUT_OF_RANGE;
            }
            int landed = 0;
            for (int h = 0; h < hours; h++) {
                for (int i = 0; i < balloonCount; i++) {
                    if (balloons[i].state == ALOFT) {
                        letFly(balloons[i]);
                        landed += balloons[i].state == LANDED ? 1 : 0;
                    }
                }
                hour++;
            }
            return landed;
        }

        private void letFly(Balloon balloon) {
            int gasBefore = balloon.gas;
            balloon.flyAnHour(this);
            gasLeaked += gasBefore - balloon.gas;
            if (balloon.state == LOST) {
                ballastLost += balloon.ballast;
            }
            if (balloon.state == LANDED) {
                ballastLanded += balloon.ballast;
                balloon.wordHour = hour + (balloon.distance() + 4) / 5;
            }
        }

        /** Puts into ahead how a balloon would be at its end, if it let the ballast go now. */
        void foretell(int number, int drop, Balloon ahead) {
            ahead.copyFrom(balloons[number]);
            ahead.ballast -= drop;
            for (int h = 0; h < FLIGHT_BOUND && ahead.state == ALOFT; h++) {
                ahead.flyAnHour(this);
            }
        }

        int letterState(int number) {
            int balloon = letters[number].balloon;
            if (!hasBalloon(balloon)) {
                return WAITS;
            }
            switch (balloons[balloon].state) {
                case LANDED:
                    return DELIVERED;
                case LOST:
                    return LETTER_LOST;
                default:
                    return LOADED;
            }
        }

        int letterNumber(int number, int what) {
            switch (what) {
                case 0:
                    return letters[number].sheets;
                case 1:
                    return letters[number].rank;
                case 2:
                    return letterState(number);
                default:
                    return letters[number].balloon;
            }
        }

        int weightByLetters(int number) {
            Balloon balloon = balloons[number];
            int weight = (balloon.size + 9) / 10 + balloon.ballast + balloon.courierWeight;
            int left = 0;
            for (int i = 0; i < letterCount; i++) {
                if (letters[i].balloon == number) {
                    left += letters[i].sheets;
                    weight += left / 3;
                    left %= 3;
                }
            }
            return left > 0 ? weight + 1 : weight;
        }

        /** The letter at a place of the order in which those that wait are gone through, or -1. */
        int letterAtPlace(int place) {
            int passed = 0;
            for (int rank = MOST_RANK; rank >= 0; rank--) {
                for (int i = 0; i < letterCount; i++) {
                    if (isWaiting(i, rank)) {
                        if (passed == place) {
                            return i;
                        }
                        passed++;
                    }
                }
            }
            return -1;
        }

        int numberOf(int what) {
            switch (what) {
                case 0:
                    return hour;
                case 1:
                    return ring;
                case 2:
                    return gas;
                case 3:
                    return balloonCount;
                case 4:
                    return balloonsIn(IN_TOWN);
                case 5:
                    return balloonsIn(ALOFT);
                case 6:
                    return balloonsIn(LANDED);
                case 7:
                    return balloonsIn(LOST);
                case 8:
                    return letterCount;
                case 9:
                    return lettersIn(WAITS);
                case 10:
                    return lettersIn(LOADED);
                case 11:
                    return lettersIn(DELIVERED);
                case 12:
                    return lettersIn(LETTER_LOST);
                case 13:
                    return wordsTold();
                case 14:
                    return ballastLaid;
                case 15:
                    return ballastLetGo;
                case 16:
                    return ballastLanded;
                case 17:
                    return ballastLost;
                default:
                    return gasLeaked;
            }
        }

        int balloonsIn(int state) {
            int found = 0;
            for (int i = 0; i < balloonCount; i++) {
                if (balloons[i].state == state) {
                    found++;
                }
            }
            return found;
        }

        int lettersIn(int state) {
            int found = 0;
            for (int i = 0; i < letterCount; i++) {
                if (letterState(i) == state) {
                    found++;
                }
            }
            return found;
        }

        private int wordsTold() {
            int told = 0;
            for (int i = 0; i < balloonCount; i++) {
                // A word comes at the end of its hour, so that it is told when that hour has gone by.
                if (balloons[i].sendsWord() && balloons[i].wordHour < hour) {
                    told++;
                }
            }
            return told;
        }

        int ballastHeld() {
            int held = 0;
            for (int i = 0; i < balloonCount; i++) {
                if (balloons[i].state == IN_TOWN || balloons[i].state == ALOFT) {
                    held += balloons[i].ballast;
                }
            }
            return held;
        }

        int distancesOfLanded() {
            int sum = 0;
            for (int i = 0; i < balloonCount; i++) {
                if (balloons[i].state == LANDED) {
                    sum += balloons[i].distance();
                }
            }
            return sum;
        }
    }

    /** The towns ahead of the latest changes, in a ring of rows that are used again. */
    private static final class History {
        // One row more than can be undone: the next one is written ahead of a change that may fail yet.
        final Town[] rows = new Town[MOST_UNDONE + 1];
        int next;
        int count;

        History() {
            for (int i = 0; i <= MOST_UNDONE; i++) {
                rows[i] = new Town();
            }
        }

        void prepare(Town town) {
            rows[next].copyFrom(town);
        }

        void takeBack(Town town) {
            town.copyFrom(rows[next]);
        }

        void keep() {
            next = next < MOST_UNDONE ? next + 1 : 0;
            if (count < MOST_UNDONE) {
                count++;
            }
        }

        boolean stepBack(Town town) {
            if (count == 0) {
                return false;
            }
            next = next > 0 ? next - 1 : MOST_UNDONE;
            count--;
            town.copyFrom(rows[next]);
            return true;
        }

        void forget() {
            count = 0;
        }
    }

    /** The input, and the orders of the text that was read latest. */
    private static final class OrderText {
        // An order has two characters at least, and all but the last one a semicolon behind it.
        static final int MOST_ORDERS = (MOST_SIGNS + 1) / 3;
        static final int NO_NUMBER = -100;

        final char[] signs = new char[MOST_SIGNS];
        final int[] kinds = new int[MOST_ORDERS];
        final int[] first = new int[MOST_ORDERS];
        final int[] second = new int[MOST_ORDERS];
        final int[] third = new int[MOST_ORDERS];
        int length;
        int orders;
        int errorPosition = -1;
        private int at;

        boolean add(char c) {
            if (length >= MOST_SIGNS) {
                return false;
            }
            signs[length] = c;
            length++;
            return true;
        }

        /** Takes the input apart into orders and empties it; answers whether it is free of errors. */
        boolean understand() {
            at = 0;
            orders = 0;
            boolean isRight = takeOrders();
            errorPosition = isRight ? -1 : at;
            length = 0;
            return isRight;
        }

        /** Goes on only over what can continue a text, so that at is the error position when something cannot. */
        private boolean takeOrders() {
            boolean isMore = true;
            while (isMore && orders < MOST_ORDERS) {
                if (!takeOrder()) {
                    return false;
                }
                orders++;
                isMore = take(';');
            }
            return !isMore && at == length;
        }

        private boolean takeOrder() {
            if (at >= length) {
                return false;
            }
            int kind = signs[at];
            kinds[orders] = kind;
            switch (kind) {
                case 'f':
                    at++;
                    return takeFirst(digit()) && take('=') && takeSecond(number());
                case 'b':
                    at++;
                    return takeFirst(digit()) && take('+') && takeSecond(number());
                case 'd':
                    at++;
                    return takeFirst(digit()) && take('-') && takeSecond(number());
                case 'l':
                    at++;
                    return takeFirst(number()) && take('@') && takeSecond(digit());
                case 'u':
                    at++;
                    return takeFirst(digit());
                case 'h':
                    at++;
                    return takeFirst(number());
                case 'w':
                    at++;
                    return takeFirst(digit()) && take(':') && takeSecond(signedDigit())
                            && take(',') && takeThird(signedDigit());
                default:
                    return false;
            }
        }

        private boolean takeFirst(int number) {
            first[orders] = number;
            return number != NO_NUMBER;
        }

        private boolean takeSecond(int number) {
            second[orders] = number;
            return number != NO_NUMBER;
        }

        private boolean takeThird(int number) {
            third[orders] = number;
            return number != NO_NUMBER;
        }

        private boolean take(char sign) {
            if (at < length && signs[at] == sign) {
                at++;
                return true;
            }
            return false;
        }

        private int digit() {
            if (at < length && signs[at] >= '0' && signs[at] <= '9') {
                at++;
                return signs[at - 1] - '0';
            }
            return NO_NUMBER;
        }

        private int number() {
            int tens = digit();
            if (tens == NO_NUMBER) {
                return NO_NUMBER;
            }
            int ones = digit();
            return ones == NO_NUMBER ? tens : 10 * tens + ones;
        }

        private int signedDigit() {
            boolean isNegative = take('-');
            int size = digit();
            if (size == NO_NUMBER) {
                return NO_NUMBER;
            }
            return isNegative ? -size : size;
        }
    }
}
