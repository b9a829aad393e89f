import java.util.ArrayDeque;
import java.util.ArrayList;
import java.util.Comparator;
import java.util.Deque;
import java.util.List;
import java.util.NoSuchElementException;
import java.util.regex.Matcher;
import java.util.regex.Pattern;

/**
 * The document once more, written in another way than the program: weights and states are found anew at every question,
 * a change works on a copy of everything, and texts are matched by a pattern.
 */
final class Model {
    private static final Pattern ORDER = Pattern.compile("f(\\d)=(\\d\\d?)|b(\\d)\\+(\\d\\d?)|d(\\d)-(\\d\\d?)|l(\\d\\d?)@(\\d)"
            + "|u(\\d)|h(\\d\\d?)|w(\\d):(-?\\d),(-?\\d)");
    private static final Pattern TEXT = Pattern.compile("(?:" + ORDER.pattern().replace("(", "(?:") + ")(?:;(?:"
            + ORDER.pattern().replace("(", "(?:") + "))*");

    private static final class Paper {
        int size;
        int gas;
        int ballast;
        List<Integer> couriers = new ArrayList<>();
        char sign = 't';
        int height;
        int x = 20;
        int y = 20;
        int hours;
        int landedIn;

        Paper copy() {
            Paper copy = new Paper();
            copy.size = size;
            copy.gas = gas;
            copy.ballast = ballast;
            copy.couriers = new ArrayList<>(couriers);
            copy.sign = sign;
            copy.height = height;
            copy.x = x;
            copy.y = y;
            copy.hours = hours;
            copy.landedIn = landedIn;
            return copy;
        }

        int distance() {
            return Math.max(Math.max(x - 20, 20 - x), Math.max(y - 20, 20 - y));
        }
    }

    private record Sheet(int number, int sheets, int rank, int balloon) {
    }

    private static final class State {
        int ring = 5;
        int hour;
        int gas = 100;
        int laid;
        int letGo;
        int leaked;
        List<int[]> winds = new ArrayList<>();
        List<Paper> balloons = new ArrayList<>();
        List<Sheet> letters = new ArrayList<>();

        State copy() {
            State copy = new State();
            copy.ring = ring;
            copy.hour = hour;
            copy.gas = gas;
            copy.laid = laid;
            copy.letGo = letGo;
            copy.leaked = leaked;
            copy.winds.addAll(winds);
            balloons.forEach(b -> copy.balloons.add(b.copy()));
            copy.letters.addAll(letters);
            return copy;
        }

        int weight(int number) {
            Paper b = balloons.get(number);
            int sheets = letters.stream().filter(l -> l.balloon() == number).mapToInt(Sheet::sheets).sum();
            int couriers = b.couriers.stream().mapToInt(w -> w).sum();
            return (int) Math.ceil(b.size / 10.0) + b.ballast + couriers + (int) Math.ceil(sheets / 3.0);
        }

        int bears(int number) {
            return balloons.get(number).gas - weight(number);
        }

        void fly(int number) {
            Paper b = balloons.get(number);
            b.hours++;
            int leak = (int) Math.ceil(b.gas / 20.0);
            b.gas -= leak;
            leaked += leak;
            if (bears(number) < 0) {
                b.sign = b.distance() > ring ? 'l' : 'x';
            } else {
                b.height = Math.min(5, bears(number) / 4);
                b.x += winds.get(b.height)[0];
                b.y += winds.get(b.height)[1];
                b.sign = b.x < 0 || b.x > 39 || b.y < 0 || b.y > 39 ? 'x' : 'a';
            }
            if (b.sign == 'l') {
                b.landedIn = hour;
            }
            if (b.sign != 'a') {
                b.height = 0;
            }
        }

        /** How the flight of a balloon ends, if hours go by for it alone. */
        Paper ended(int number, int drop) {
            State copy = copy();
            Paper b = copy.balloons.get(number);
            b.ballast -= drop;
            while (b.sign == 'a') {
                copy.fly(number);
            }
            return b;
        }

        int letterState(Sheet letter) {
            return letter.balloon() < 0 ? 0 : Math.max(1, "talx".indexOf(balloons.get(letter.balloon()).sign));
        }

        List<Sheet> order() {
            List<Sheet> order = new ArrayList<>(letters.stream().filter(l -> l.balloon() < 0).toList());
            order.sort(Comparator.comparingInt((Sheet l) -> -l.rank()).thenComparingInt(Sheet::number));
            return order;
        }

        void put(int letter, int balloon) {
            Sheet l = letters.get(letter);
            letters.set(letter, new Sheet(letter, l.sheets(), l.rank(), balloon));
        }

        long count(char sign) {
            return balloons.stream().filter(b -> b.sign == sign).count();
        }

        long countLetters(int state) {
            return letters.stream().filter(l -> letterState(l) == state).count();
        }

        int ballastOf(char sign) {
            return balloons.stream().filter(b -> b.sign == sign).mapToInt(b -> b.ballast).sum();
        }
    }

    private State now = new State();
    private final Deque<State> before = new ArrayDeque<>();
    private State saved;
    private String text = "";
    private int error = -1;
    private int reason;
    private int detail;
    private boolean isReading;

    Model() {
        for (int i = 0; i < 6; i++) {
            now.winds.add(new int[] {0, 0});
        }
    }

    private void change() {
        if (!isReading) {
            before.push(now.copy());
            if (before.size() > 8) {
                before.removeLast();
            }
        }
    }

    private static void range(int number, int least, int most) {
        if (number < least || number > most) {
            throw new IllegalArgumentException();
        }
    }

    private static void index(int number, int end) {
        if (number < 0 || number >= end) {
            throw new IndexOutOfBoundsException();
        }
    }

    private void refuse(boolean isRefused, int why, int what) {
        if (isRefused) {
            reason = why;
            detail = what;
            throw new UnsupportedOperationException();
        }
    }

    private Paper at(int balloon) {
        index(balloon, now.balloons.size());
        return now.balloons.get(balloon);
    }

    public int ring(int ring) {
        range(ring, 1, 15);
        change();
        int was = now.ring;
        now.ring = ring;
        return was;
    }

    public int wind(int height, int x, int y) {
        index(height, 6);
        range(x, -3, 3);
        range(y, -3, 3);
        change();
        int[] was = now.winds.set(height, new int[] {x, y});
        return 10 * was[0] + was[1];
    }

    public int gas(int amount) {
        range(amount, 1, 999);
        change();
        return now.gas = Math.min(9999, now.gas + amount);
    }

    public int balloon(int size) {
        range(size, 10, 99);
        refuse(now.balloons.size() == 6, 1, 6);
        change();
        Paper b = new Paper();
        b.size = size;
        now.balloons.add(b);
        return now.balloons.size() - 1;
    }

    public int fill(int balloon, int amount) {
        Paper b = at(balloon);
        range(amount, 1, 99);
        refuse(b.sign != 't', 2, balloon);
        refuse(now.gas < amount, 4, now.gas);
        refuse(b.gas + amount > b.size, 5, b.size - b.gas);
        change();
        now.gas -= amount;
        return b.gas += amount;
    }

    public int ballast(int balloon, int amount) {
        Paper b = at(balloon);
        range(amount, 1, 50);
        refuse(b.sign != 't', 2, balloon);
        refuse(b.ballast + amount > 50, 6, 50 - b.ballast);
        change();
        now.laid += amount;
        return b.ballast += amount;
    }

    public int courier(int balloon, int weight) {
        Paper b = at(balloon);
        range(weight, 5, 12);
        refuse(b.sign != 't', 2, balloon);
        refuse(b.couriers.size() == 2, 1, 2);
        change();
        b.couriers.add(weight);
        return b.couriers.size();
    }

    public int letter(int sheets, int rank) {
        range(sheets, 1, 9);
        range(rank, 0, 2);
        refuse(now.letters.size() == 24, 1, 24);
        change();
        now.letters.add(new Sheet(now.letters.size(), sheets, rank, -1));
        return now.letters.size() - 1;
    }

    public int load(int letter, int balloon) {
        index(letter, now.letters.size());
        Paper b = at(balloon);
        refuse(now.letters.get(letter).balloon() >= 0, 8, letter);
        refuse(b.sign != 't', 2, balloon);
        change();
        now.put(letter, balloon);
        return now.weight(balloon);
    }

    public int loadAll(int balloon) {
        Paper b = at(balloon);
        refuse(b.sign != 't', 2, balloon);
        change();
        int loaded = 0;
        for (Sheet letter : now.order()) {
            now.put(letter.number(), balloon);
            loaded++;
            if (now.bears(balloon) < 0) {
                now.put(letter.number(), -1);
                loaded--;
            }
        }
        return loaded;
    }

    public int launch(int balloon) {
        Paper b = at(balloon);
        refuse(b.sign != 't', 2, balloon);
        refuse(now.bears(balloon) < 0, 9, -now.bears(balloon));
        change();
        b.sign = 'a';
        return now.bears(balloon);
    }

    public int drop(int balloon, int amount) {
        Paper b = at(balloon);
        range(amount, 1, 50);
        refuse(b.sign != 'a', 3, balloon);
        refuse(b.ballast < amount, 7, b.ballast);
        change();
        now.letGo += amount;
        return b.ballast -= amount;
    }

    public int pass(int hours) {
        range(hours, 1, 48);
        change();
        long landed = now.count('l');
        for (int h = 0; h < hours; h++) {
            for (int i = 0; i < now.balloons.size(); i++) {
                if (now.balloons.get(i).sign == 'a') {
                    now.fly(i);
                }
            }
            now.hour++;
        }
        return (int) (now.count('l') - landed);
    }

    public int balloonOf(int balloon, int what) {
        Paper b = at(balloon);
        range(what, 0, 11);
        int letters = (int) now.letters.stream().filter(l -> l.balloon() == balloon).count();
        return new int[] {b.size, b.gas, b.ballast, b.couriers.size(), letters, now.weight(balloon), now.bears(balloon),
            "talx".indexOf(b.sign), b.height, b.x, b.y, b.hours}[what];
    }

    public int letterOf(int letter, int what) {
        index(letter, now.letters.size());
        range(what, 0, 3);
        Sheet l = now.letters.get(letter);
        return new int[] {l.sheets(), l.rank(), now.letterState(l), l.balloon()}[what];
    }

    public int weightAgain(int balloon) {
        at(balloon);
        return now.weight(balloon);
    }

    public int waiting(int place) {
        if (place < 0 || place >= now.order().size()) {
            throw new NoSuchElementException();
        }
        return now.order().get(place).number();
    }

    private static int wordOf(Paper b) {
        return b.landedIn + (int) Math.ceil(b.distance() / 5.0);
    }

    public int word(int balloon) {
        Paper b = at(balloon);
        if (b.sign != 'l' || b.couriers.isEmpty()) {
            throw new NoSuchElementException();
        }
        return wordOf(b);
    }

    public char sign(int balloon) {
        return at(balloon).sign;
    }

    public boolean isWithin(int x, int y) {
        index(x, 40);
        index(y, 40);
        return x >= 20 - now.ring && x <= 20 + now.ring && y >= 20 - now.ring && y <= 20 + now.ring;
    }

    private void aloft(Paper b) {
        if (b.sign != 'a') {
            throw new NoSuchElementException();
        }
    }

    public int endsIn(int balloon) {
        aloft(at(balloon));
        return now.ended(balloon, 0).hours - at(balloon).hours;
    }

    public int ends(int balloon, int what) {
        Paper b = at(balloon);
        range(what, 0, 2);
        aloft(b);
        Paper end = now.ended(balloon, 0);
        return new int[] {end.x, end.y, "talx".indexOf(end.sign)}[what];
    }

    public int bestDrop(int balloon) {
        Paper b = at(balloon);
        aloft(b);
        int best = -1;
        int distance = 0;
        for (int drop = b.ballast; drop >= 0; drop--) {
            Paper end = now.ended(balloon, drop);
            if (end.sign == 'l' && end.distance() >= distance) {
                best = drop;
                distance = end.distance();
            }
        }
        if (best < 0) {
            throw new NoSuchElementException();
        }
        return best;
    }

    public int append(char c) {
        if (text.length() == 60) {
            throw new IllegalStateException();
        }
        text += c;
        return text.length();
    }

    private static int errorOf(String text) {
        if (TEXT.matcher(text).matches()) {
            return -1;
        }
        for (int end = 1; end <= text.length(); end++) {
            Matcher matcher = TEXT.matcher(text.substring(0, end));
            if (!matcher.matches() && !matcher.hitEnd()) {
                return end - 1;
            }
        }
        return text.length();
    }

    public int read() {
        String input = text;
        text = "";
        error = errorOf(input);
        if (error >= 0) {
            throw new IllegalArgumentException();
        }
        State start = now.copy();
        isReading = true;
        String[] orders = input.split(";");
        try {
            for (String order : orders) {
                carryOut(order);
            }
        } catch (UnsupportedOperationException e) {
            now = start;
            throw e;
        } catch (RuntimeException e) {
            now = start;
            throw new IllegalArgumentException();
        } finally {
            isReading = false;
        }
        State end = now;
        now = start;
        change();
        now = end;
        return orders.length;
    }

    private void carryOut(String order) {
        Matcher m = ORDER.matcher(order);
        if (!m.matches()) {
            throw new AssertionError(order);
        }
        List<Integer> n = new ArrayList<>();
        for (int i = 1; i <= m.groupCount(); i++) {
            if (m.group(i) != null) {
                n.add(Integer.valueOf(m.group(i)));
            }
        }
        switch (order.charAt(0)) {
            case 'f' -> fill(n.get(0), n.get(1));
            case 'b' -> ballast(n.get(0), n.get(1));
            case 'd' -> drop(n.get(0), n.get(1));
            case 'l' -> load(n.get(0), n.get(1));
            case 'u' -> launch(n.get(0));
            case 'h' -> pass(n.get(0));
            default -> wind(n.get(0), n.get(1), n.get(2));
        }
    }

    public int errorPosition() {
        return error;
    }

    public int refusal(boolean isDetail) {
        if (reason == 0) {
            throw new NoSuchElementException();
        }
        return isDetail ? detail : reason;
    }

    public int account(int what) {
        range(what, 0, 20);
        long told = now.balloons.stream().filter(b -> b.sign == 'l' && !b.couriers.isEmpty() && wordOf(b) <= now.hour - 1).count();
        return (int) new long[] {now.hour, now.ring, now.gas, now.balloons.size(), now.count('t'), now.count('a'), now.count('l'),
            now.count('x'), now.letters.size(), now.countLetters(0), now.countLetters(1), now.countLetters(2), now.countLetters(3),
            told, now.laid, now.letGo, now.ballastOf('l'), now.ballastOf('x'), now.leaked, text.length(), before.size()}[what];
    }

    public boolean isWell() {
        return now.laid == now.letGo + now.ballastOf('t') + now.ballastOf('a') + now.ballastOf('l') + now.ballastOf('x');
    }

    public double meanDistance() {
        if (now.count('l') == 0) {
            throw new ArithmeticException();
        }
        return now.balloons.stream().filter(b -> b.sign == 'l').mapToDouble(Paper::distance).sum() / now.count('l');
    }

    public float share() {
        float ended = now.countLetters(2) + now.countLetters(3);
        if (ended == 0) {
            throw new ArithmeticException();
        }
        return now.countLetters(2) / ended;
    }

    public int undo() {
        if (before.isEmpty()) {
            throw new IllegalStateException();
        }
        now = before.pop();
        return before.size();
    }

    public int save() {
        saved = now.copy();
        return now.balloons.size();
    }

    public int restore() {
        if (saved == null) {
            throw new IllegalStateException();
        }
        now = saved.copy();
        before.clear();
        return now.balloons.size();
    }
}
