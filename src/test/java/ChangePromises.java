/** The sentences of the promises 1 to 14: a new object and the calls that change it. */
final class ChangePromises {
    private static final String NO_BALLOON = "Throws `IndexOutOfBoundsException` if there is no such balloon";
    private static final String OUT_OF_RANGE = "Throws `IllegalArgumentException` if the number is out of range";
    private static final String ILLEGAL = " -> throws IllegalArgumentException;";
    private static final String NO_INDEX = " -> throws IndexOutOfBoundsException;";
    private static final String REFUSED = " -> throws UnsupportedOperationException;";

    /** A balloon that is aloft, one that has landed, and one that is lost; their numbers are 0, 1 and 2. */
    private static final String OUT = "3 * balloon(20); ballast(0, 1); fill(0, 20); fill(1, 5); fill(2, 2); wind(0, 3, 0); launch(0) -> 17;"
            + "launch(1) -> 3; launch(2) -> 0; pass(4) -> 1; sign(0) -> a; sign(1) -> l; sign(2) -> x;";

    private static String section = "";

    private ChangePromises() {
    }

    static void hold() {
        newObject();
        ring();
        wind();
        gas();
        balloon();
        fill();
        ballast();
        courier();
        letter();
        load();
        loadAll();
        launch();
        drop();
        pass();
    }

    private static void holds(String words, String aCase, String script) {
        Sentences.holds(section, words, aCase, script);
    }

    /** The numbers of balloons that there are not, for a call in which B stands for the balloon. */
    static String noBalloon(String call) {
        return "balloon(20); balloon(20);" + call.replace("B", "2") + NO_INDEX + call.replace("B", "6") + NO_INDEX
                + call.replace("B", "MAX") + NO_INDEX + call.replace("B", "-1") + NO_INDEX + call.replace("B", "MIN") + NO_INDEX
                + "4 * balloon(20) -> 5;" + call.replace("B", "6") + NO_INDEX;
    }

    private static String noBalloonAtAll(String call) {
        return call.replace("B", "0") + NO_INDEX + call.replace("B", "-1") + NO_INDEX + "balloon(20); undo() -> 0;" + call.replace("B", "0") + NO_INDEX;
    }

    private static String refused(String call, int reason, int detail) {
        return call + REFUSED + "refusal(false) -> " + reason + "; refusal(true) -> " + detail + ";";
    }

    private static void newObject() {
        section = "Promise 1: A new object";
        String sentence = "Creates a town without balloons and letters, with 100 of gas, in the hour 0, without winds.";
        holds(sentence, "no balloons", "account(3) -> 0; account(4) -> 0; account(5) -> 0; account(6) -> 0; account(7) -> 0;"
                + "balloonOf(0, 0)" + NO_INDEX);
        holds(sentence, "no letters", "account(8) -> 0; account(9) -> 0; account(10) -> 0; account(11) -> 0; account(12) -> 0;"
                + "letterOf(0, 0)" + NO_INDEX + "waiting(0) -> throws NoSuchElementException;");
        holds(sentence, "100 of gas", "account(2) -> 100; balloon(99); fill(0, 99); balloon(10);" + refused("fill(1, 2)", 4, 1) + "fill(1, 1) -> 1;");
        holds(sentence, "the hour 0", "account(0) -> 0;");
        holds(sentence, "no winds", "wind(0, 1, 1) -> 0; wind(1, 1, 1) -> 0; wind(2, 1, 1) -> 0; wind(3, 1, 1) -> 0; wind(4, 1, 1) -> 0;"
                + "wind(5, 1, 1) -> 0;");
        holds(sentence, "nothing else was yet", "account(13) -> 0; account(14) -> 0; account(15) -> 0; account(16) -> 0; account(17) -> 0;"
                + "account(18) -> 0; account(19) -> 0; account(20) -> 0; errorPosition() -> -1; refusal(true) -> throws NoSuchElementException;"
                + "undo() -> throws IllegalStateException; restore() -> throws IllegalStateException;");
    }

    private static void ring() {
        section = "Promise 2: ring";
        holds("Sets the ring.", "the smallest and the largest", "ring(1); account(1) -> 1; isWithin(21, 20) -> true; isWithin(22, 20) -> false;"
                + "ring(15); account(1) -> 15; isWithin(35, 20) -> true; isWithin(36, 20) -> false;");
        holds("Sets the ring.", "it is that of the hour in which a balloon comes down that counts", "wind(0, 3, 0); balloon(10); fill(0, 4); launch(0) -> 3;"
                + "ring(9); ends(0, 2) -> 3; pass(3); ring(8); ends(0, 2) -> 2; pass(1) -> 1; ring(9); sign(0) -> l;");
        holds("Returns the ring before.", "at first, the largest and the smallest", "ring(15) -> 5; ring(1) -> 15; ring(1) -> 1; ring(5) -> 1;");
        String words = "Throws `IllegalArgumentException` if it is out of range";
        holds(words, "too small", "ring(0)" + ILLEGAL + "ring(-5)" + ILLEGAL + "ring(MIN)" + ILLEGAL + "ring(1) -> 5;");
        holds(words, "too large", "ring(16)" + ILLEGAL + "ring(MAX)" + ILLEGAL + "ring(15) -> 5;");
    }

    private static void wind() {
        section = "Promise 3: wind";
        holds("Sets a wind.", "of the least and of the most height, and of no other one", "wind(0, 1, -1); wind(5, -2, 3); wind(1, 0, 0) -> 0;"
                + "wind(4, 0, 0) -> 0; wind(0, 0, 0) -> 9; wind(5, 0, 0) -> -17;");
        String words = "Returns 10 times the number for the x before plus that for the y before.";
        holds(words, "the least and the most", "wind(2, -3, -3) -> 0; wind(2, 3, 3) -> -33; wind(2, 3, -3) -> 33; wind(2, -3, 3) -> 27;"
                + "wind(2, 0, 0) -> -27;");
        holds(words, "less than 0 for one of them", "wind(2, 0, -3) -> 0; wind(2, -3, 0) -> -3; wind(2, -1, 2) -> -30; wind(2, 1, -2) -> -8;"
                + "wind(2, 0, 0) -> 8;");
        words = "Throws `IndexOutOfBoundsException` if there is no such height";
        holds(words, "too small", "wind(-1, 0, 0)" + NO_INDEX + "wind(MIN, 0, 0)" + NO_INDEX + "wind(0, 1, 0) -> 0;");
        holds(words, "too large", "wind(6, 0, 0)" + NO_INDEX + "wind(MAX, 0, 0)" + NO_INDEX + "wind(5, 1, 0) -> 0;");
        words = "Throws `IllegalArgumentException` if a number is out of range";
        holds(words, "an x that is too small or too large", "wind(0, -4, 0)" + ILLEGAL + "wind(0, 4, 0)" + ILLEGAL + "wind(0, MIN, 0)" + ILLEGAL
                + "wind(0, MAX, 0)" + ILLEGAL + "wind(0, -3, 0) -> 0; wind(0, 3, 0) -> -30;");
        holds(words, "a y that is too small or too large", "wind(5, 0, -4)" + ILLEGAL + "wind(5, 0, 4)" + ILLEGAL + "wind(5, 0, MIN)" + ILLEGAL
                + "wind(5, 0, MAX)" + ILLEGAL + "wind(5, 0, -3) -> 0; wind(5, 0, 3) -> -3;");
        holds(words, "of two numbers the one sets nothing if the other one is wrong", "wind(1, 1, 4)" + ILLEGAL + "wind(1, 4, 1)" + ILLEGAL
                + "wind(1, 0, 0) -> 0;");
    }

    private static void gas() {
        section = "Promise 4: gas";
        holds("Makes gas.", "what is made can be filled into balloons", "balloon(99); fill(0, 99); balloon(99); fill(1, 1); gas(98) -> 98; fill(1, 98) -> 99;"
                + "account(2) -> 0; gas(1) -> 1;");
        holds("- `amount`: how much, 1 to 999", "the least and the most", "gas(1) -> 101; gas(999) -> 1100;");
        String sentence = "Returns how much there is then, of which what is more than 9999 is lost.";
        holds(sentence, "9999 and none more", "9 * gas(999) -> 9091; gas(908) -> 9999; account(2) -> 9999;");
        holds(sentence, "one more", "9 * gas(999) -> 9091; gas(909) -> 9999; account(2) -> 9999; account(18) -> 0;");
        holds(sentence, "much more", "9 * gas(999) -> 9091; gas(999) -> 9999; gas(999) -> 9999; account(2) -> 9999; account(18) -> 0;");
        holds(sentence, "there is room again", "10 * gas(999) -> 9999; balloon(50); fill(0, 50); account(2) -> 9949; gas(49) -> 9998; gas(1) -> 9999;");
        holds(OUT_OF_RANGE, "too small", "gas(0)" + ILLEGAL + "gas(-1)" + ILLEGAL + "gas(MIN)" + ILLEGAL + "account(2) -> 100;");
        holds(OUT_OF_RANGE, "too large", "gas(1000)" + ILLEGAL + "gas(MAX)" + ILLEGAL + "account(2) -> 100;");
        holds(OUT_OF_RANGE, "also if there is no room", "10 * gas(999) -> 9999; gas(0)" + ILLEGAL + "gas(1000)" + ILLEGAL);
    }

    private static void balloon() {
        section = "Promise 5: balloon";
        holds("Adds a balloon.", "the smallest and the largest", "balloon(10); balloon(99); account(3) -> 2; account(4) -> 2; balloonOf(0, 0) -> 10;"
                + "balloonOf(1, 0) -> 99;");
        holds("Adds a balloon.", "as new after another one was undone", "balloon(99); fill(0, 50); ballast(0, 5); courier(0, 5); letter(1, 0); load(0, 0);"
                + "6 * undo() -> 0; balloon(10) -> 0; balloonOf(0, 0) -> 10; balloonOf(0, 1) -> 0; balloonOf(0, 2) -> 0; balloonOf(0, 3) -> 0;"
                + "balloonOf(0, 4) -> 0; balloonOf(0, 5) -> 1;");
        holds("Adds a balloon.", "as new after another one is gone by restore", "save(); balloon(99); fill(0, 50); ballast(0, 5); courier(0, 5); letter(1, 0);"
                + "load(0, 0); launch(0); wind(5, 1, 1); pass(1); restore() -> 0; balloon(10) -> 0; balloonOf(0, 0) -> 10; balloonOf(0, 1) -> 0;"
                + "balloonOf(0, 2) -> 0; balloonOf(0, 3) -> 0; balloonOf(0, 4) -> 0; balloonOf(0, 5) -> 1; balloonOf(0, 7) -> 0; balloonOf(0, 8) -> 0;"
                + "balloonOf(0, 9) -> 20; balloonOf(0, 10) -> 20; balloonOf(0, 11) -> 0;");
        holds("Returns its number.", "the first and the last one", "balloon(10) -> 0; 4 * balloon(10) -> 4; balloon(10) -> 5;");
        String words = "Throws `IllegalArgumentException` if the size is out of range";
        holds(words, "too small", "balloon(9)" + ILLEGAL + "balloon(-10)" + ILLEGAL + "balloon(MIN)" + ILLEGAL + "account(3) -> 0; balloon(10) -> 0;");
        holds(words, "too large", "balloon(100)" + ILLEGAL + "balloon(MAX)" + ILLEGAL + "account(3) -> 0; balloon(99) -> 0;");
        words = "Throws `UnsupportedOperationException` if it is refused for reason 1; the reason is kept for refusal";
        holds(words, "full", "6 * balloon(10) -> 5;" + refused("balloon(10)", 1, 6) + "account(3) -> 6; undo() -> 5; balloon(20) -> 5;");
        holds(words, "full, and the size is out of range", "6 * balloon(10) -> 5; balloon(9)" + ILLEGAL + "balloon(100)" + ILLEGAL
                + "refusal(false) -> throws NoSuchElementException;");
    }

    private static void fill() {
        section = "Promise 6: fill";
        holds("Fills a balloon.", "with all the gas that there is", "balloon(99); balloon(10); fill(0, 99); fill(1, 1); account(2) -> 0; balloonOf(0, 1) -> 99;"
                + "balloonOf(1, 1) -> 1;");
        holds("- `amount`: how much gas comes into it, 1 to 99", "the least and the most", "balloon(99); fill(0, 99) -> 99; balloon(99); fill(1, 1) -> 1;");
        holds("Returns its gas then.", "the first and a later time", "balloon(10); fill(0, 4) -> 4; fill(0, 6) -> 10;");
        holds(NO_BALLOON, "too small or too large", noBalloon("fill(B, 1)"));
        holds(NO_BALLOON, "none", noBalloonAtAll("fill(B, 1)"));
        holds(OUT_OF_RANGE, "too small", "balloon(99); fill(0, 0)" + ILLEGAL + "fill(0, -1)" + ILLEGAL + "fill(0, MIN)" + ILLEGAL + "balloonOf(0, 1) -> 0;");
        holds(OUT_OF_RANGE, "too large", "gas(100); balloon(99); fill(0, 100)" + ILLEGAL + "fill(0, MAX)" + ILLEGAL + "balloonOf(0, 1) -> 0;");
        String words = "Throws `UnsupportedOperationException` if it is refused for reason 2, 4 or 5; the reason is kept for refusal";
        holds(words, "aloft, landed and lost", OUT + refused("fill(0, 1)", 2, 0) + refused("fill(1, 1)", 2, 1) + refused("fill(2, 1)", 2, 2));
        holds(words, "there is one less", "balloon(60); fill(0, 60); balloon(60);" + refused("fill(1, 41)", 4, 40) + "fill(1, 40) -> 40;");
        holds(words, "there is none", "balloon(99); fill(0, 99); balloon(20); fill(1, 1);" + refused("fill(1, 1)", 4, 0));
        holds(words, "its size is one less", "balloon(98);" + refused("fill(0, 99)", 5, 98) + "fill(0, 98) -> 98;");
        holds(words, "it is full", "balloon(10); fill(0, 10);" + refused("fill(0, 1)", 5, 0) + refused("fill(0, 90)", 5, 0));
    }

    private static void ballast() {
        section = "Promise 7: ballast";
        holds("Lays ballast into a balloon.", "until it is full", "balloon(10); ballast(0, 49); balloonOf(0, 2) -> 49; ballast(0, 1); balloonOf(0, 2) -> 50;"
                + "account(14) -> 50;");
        holds("- `amount`: how much, 1 to 50", "the least and the most", "balloon(10); ballast(0, 1) -> 1; balloon(10); ballast(1, 50) -> 50;");
        holds("Returns its ballast then.", "the first and a later time", "balloon(10); ballast(0, 4) -> 4; ballast(0, 46) -> 50;");
        holds(NO_BALLOON, "too small or too large", noBalloon("ballast(B, 1)"));
        holds(NO_BALLOON, "none", noBalloonAtAll("ballast(B, 1)"));
        holds(OUT_OF_RANGE, "too small", "balloon(10); ballast(0, 0)" + ILLEGAL + "ballast(0, -1)" + ILLEGAL + "ballast(0, MIN)" + ILLEGAL + "balloonOf(0, 2) -> 0;");
        holds(OUT_OF_RANGE, "too large", "balloon(10); ballast(0, 51)" + ILLEGAL + "ballast(0, MAX)" + ILLEGAL + "balloonOf(0, 2) -> 0;");
        holds(OUT_OF_RANGE, "also if it is full", "balloon(10); ballast(0, 50); ballast(0, 0)" + ILLEGAL + "ballast(0, 51)" + ILLEGAL);
        String words = "Throws `UnsupportedOperationException` if it is refused for reason 2 or 6; the reason is kept for refusal";
        holds(words, "aloft, landed and lost", OUT + refused("ballast(0, 1)", 2, 0) + refused("ballast(1, 1)", 2, 1) + refused("ballast(2, 1)", 2, 2));
        holds(words, "room for one less", "balloon(10); ballast(0, 41);" + refused("ballast(0, 10)", 6, 9) + "ballast(0, 9) -> 50;");
        holds(words, "full", "balloon(10); ballast(0, 50);" + refused("ballast(0, 1)", 6, 0) + refused("ballast(0, 50)", 6, 0));
    }

    private static void courier() {
        section = "Promise 8: courier";
        holds("Lets a courier come into a balloon.", "the lightest and the heaviest one", "balloon(10); courier(0, 5); balloonOf(0, 3) -> 1; balloonOf(0, 5) -> 6;"
                + "courier(0, 12); balloonOf(0, 3) -> 2; balloonOf(0, 5) -> 18;");
        holds("Returns how many couriers it has then.", "1 and 2, in each balloon", "balloon(10); balloon(10); courier(0, 9) -> 1; courier(1, 9) -> 1;"
                + "courier(0, 9) -> 2; courier(1, 9) -> 2;");
        holds(NO_BALLOON, "too small or too large", noBalloon("courier(B, 5)"));
        holds(NO_BALLOON, "none", noBalloonAtAll("courier(B, 5)"));
        String words = "Throws `IllegalArgumentException` if the weight is out of range";
        holds(words, "too small", "balloon(10); courier(0, 4)" + ILLEGAL + "courier(0, -5)" + ILLEGAL + "courier(0, MIN)" + ILLEGAL + "balloonOf(0, 3) -> 0;");
        holds(words, "too large", "balloon(10); courier(0, 13)" + ILLEGAL + "courier(0, MAX)" + ILLEGAL + "balloonOf(0, 3) -> 0;");
        holds(words, "also if it is full", "balloon(10); courier(0, 5); courier(0, 5); courier(0, 4)" + ILLEGAL + "courier(0, 13)" + ILLEGAL);
        words = "Throws `UnsupportedOperationException` if it is refused for reason 2 or 1; the reason is kept for refusal";
        holds(words, "aloft, landed and lost", OUT + refused("courier(0, 5)", 2, 0) + refused("courier(1, 5)", 2, 1) + refused("courier(2, 5)", 2, 2));
        holds(words, "full", "balloon(10); courier(0, 5); courier(0, 5);" + refused("courier(0, 5)", 1, 2) + "balloonOf(0, 3) -> 2; balloonOf(0, 5) -> 11;");
    }

    private static void letter() {
        section = "Promise 9: letter";
        holds("Adds a letter, which waits.", "the first and the last one", "24 * letter(9, 2) -> 23; letterOf(0, 2) -> 0; letterOf(0, 3) -> -1;"
                + "letterOf(23, 2) -> 0; letterOf(23, 3) -> -1; account(9) -> 24; waiting(23) -> 23;");
        holds("Adds a letter, which waits.", "as new after another one was undone", "balloon(10); letter(9, 2); load(0, 0); undo(); undo(); letter(1, 0) -> 0;"
                + "letterOf(0, 0) -> 1; letterOf(0, 1) -> 0; letterOf(0, 2) -> 0; letterOf(0, 3) -> -1;");
        holds("Adds a letter, which waits.", "as new after another one is gone by restore", "balloon(10); save(); letter(9, 2); load(0, 0); restore();"
                + "letter(1, 0) -> 0; letterOf(0, 0) -> 1; letterOf(0, 1) -> 0; letterOf(0, 2) -> 0; letterOf(0, 3) -> -1; waiting(0) -> 0;");
        holds("Returns its number.", "the first and the last one", "letter(1, 0) -> 0; 22 * letter(1, 0) -> 22; letter(1, 0) -> 23;");
        String words = "Throws `IllegalArgumentException` if a number is out of range";
        holds(words, "sheets that are too few or too many", "letter(0, 0)" + ILLEGAL + "letter(-1, 0)" + ILLEGAL + "letter(MIN, 0)" + ILLEGAL
                + "letter(10, 0)" + ILLEGAL + "letter(MAX, 0)" + ILLEGAL + "letter(1, 0) -> 0; letter(9, 0) -> 1;");
        holds(words, "a rank that is too small or too large", "letter(1, -1)" + ILLEGAL + "letter(1, MIN)" + ILLEGAL + "letter(1, 3)" + ILLEGAL
                + "letter(1, MAX)" + ILLEGAL + "letter(1, 0) -> 0; letter(1, 2) -> 1;");
        words = "Throws `UnsupportedOperationException` if it is refused for reason 1; the reason is kept for refusal";
        holds(words, "full", "24 * letter(1, 0) -> 23;" + refused("letter(1, 0)", 1, 24) + "account(8) -> 24; undo() -> 7; letter(2, 1) -> 23;");
        holds(words, "full, and a number is out of range", "24 * letter(1, 0) -> 23; letter(0, 0)" + ILLEGAL + "letter(1, 3)" + ILLEGAL
                + "refusal(false) -> throws NoSuchElementException;");
    }

    private static void load() {
        section = "Promise 10: load";
        String sentence = "Loads a letter into a balloon, whatever its gas bears.";
        holds(sentence, "0, and then less", "balloon(10); fill(0, 2); letter(3, 0); letter(1, 0); load(0, 0) -> 2; balloonOf(0, 6) -> 0; load(1, 0) -> 3;"
                + "balloonOf(0, 6) -> -1; letterOf(1, 2) -> 1;");
        holds(sentence, "it has no gas", "balloon(10); letter(9, 0); load(0, 0) -> 4; balloonOf(0, 6) -> -4; letterOf(0, 3) -> 0;");
        holds("Returns the weight of the balloon then.", "a sheet that makes it no heavier", "balloon(10); letter(1, 0); letter(1, 0); letter(1, 0); letter(1, 0);"
                + "load(3, 0) -> 2; load(0, 0) -> 2; load(2, 0) -> 2; load(1, 0) -> 3;");
        String words = "Throws `IndexOutOfBoundsException` if there is no such letter or balloon";
        holds(words, "no such letter", "balloon(10); load(0, 0)" + NO_INDEX + "letter(1, 0); load(1, 0)" + NO_INDEX + "load(-1, 0)" + NO_INDEX
                + "load(24, 0)" + NO_INDEX + "load(MAX, 0)" + NO_INDEX + "load(MIN, 0)" + NO_INDEX + "load(0, 0) -> 2;");
        holds(words, "no such balloon", "letter(1, 0); load(0, 0)" + NO_INDEX + "balloon(10); load(0, 1)" + NO_INDEX + "load(0, -1)" + NO_INDEX
                + "load(0, 6)" + NO_INDEX + "load(0, MAX)" + NO_INDEX + "load(0, MIN)" + NO_INDEX + "load(0, 0) -> 2;");
        holds(words, "the last ones that can be", "6 * balloon(10); 24 * letter(1, 0); load(23, 5) -> 2; load(24, 5)" + NO_INDEX + "load(23, 6)" + NO_INDEX);
        words = "Throws `UnsupportedOperationException` if it is refused for reason 8 or 2; the reason is kept for refusal";
        holds(words, "the letter is loaded, into this balloon or another one", "2 * balloon(10); letter(1, 0); load(0, 0);" + refused("load(0, 0)", 8, 0)
                + refused("load(0, 1)", 8, 0) + "balloonOf(0, 4) -> 1; balloonOf(1, 4) -> 0;");
        holds(words, "the letter is delivered or lost", "letter(1, 0); letter(1, 0); 3 * balloon(10); load(0, 0); load(1, 1); fill(0, 5); fill(1, 2);"
                + "wind(0, 3, 0); launch(0); launch(1) -> 0; pass(4) -> 1; letterOf(0, 2) -> 2; letterOf(1, 2) -> 3;" + refused("load(0, 2)", 8, 0)
                + refused("load(1, 2)", 8, 1));
        holds(words, "the balloon is aloft, landed and lost", OUT + "letter(1, 0);" + refused("load(0, 0)", 2, 0) + refused("load(0, 1)", 2, 1)
                + refused("load(0, 2)", 2, 2) + "letterOf(0, 2) -> 0;");
    }

    private static void loadAll() {
        section = "Promise 11: loadAll";
        String sentence = "Loads letters that wait into a balloon: they are gone through by rank, the greatest first, then by number, and each"
                + " one is loaded if the gas of the balloon bears 0 at least with it.";
        holds(sentence, "it bears 0 with it", "balloon(10); fill(0, 2); letter(3, 0); loadAll(0) -> 1; balloonOf(0, 6) -> 0;");
        holds(sentence, "it bears one less with it", "balloon(10); fill(0, 2); letter(4, 0); loadAll(0) -> 0; balloonOf(0, 6) -> 1; letterOf(0, 2) -> 0;");
        holds(sentence, "it bears less than 0 without any", "balloon(20); fill(0, 1); letter(1, 2); loadAll(0) -> 0;");
        holds(sentence, "sheets that make it no heavier, also if it bears 0", "balloon(10); fill(0, 2); letter(1, 0); letter(1, 0); letter(1, 0); letter(1, 0);"
                + "loadAll(0) -> 3; letterOf(3, 2) -> 0; balloonOf(0, 6) -> 0;");
        holds(sentence, "the greatest rank first", "balloon(10); fill(0, 2); letter(3, 0); letter(3, 1); letter(3, 2); loadAll(0) -> 1; letterOf(2, 3) -> 0;"
                + "letterOf(0, 3) -> -1; letterOf(1, 3) -> -1;");
        holds(sentence, "the middle rank ahead of the least", "balloon(10); fill(0, 2); letter(3, 0); letter(3, 1); loadAll(0) -> 1; letterOf(1, 3) -> 0;"
                + "letterOf(0, 3) -> -1;");
        holds(sentence, "by number among those of a rank", "balloon(10); fill(0, 3); letter(3, 1); letter(3, 1); letter(3, 1); loadAll(0) -> 2;"
                + "letterOf(0, 3) -> 0; letterOf(1, 3) -> 0; letterOf(2, 3) -> -1;");
        holds(sentence, "only those that wait", "balloon(20); balloon(20); fill(1, 20); letter(3, 0); letter(3, 2); load(1, 0); loadAll(1) -> 1;"
                + "letterOf(1, 3) -> 0; letterOf(0, 3) -> 1;");
        holds("Returns how many were loaded.", "none waits", "balloon(10); fill(0, 10); loadAll(0) -> 0; letter(1, 0); load(0, 0); loadAll(0) -> 0;");
        holds("Returns how many were loaded.", "all that can be", "balloon(99); fill(0, 99); 24 * letter(9, 1); loadAll(0) -> 24; balloonOf(0, 5) -> 82;"
                + "loadAll(0) -> 0;");
        holds(NO_BALLOON, "too small or too large", noBalloon("loadAll(B)"));
        holds(NO_BALLOON, "none", noBalloonAtAll("loadAll(B)"));
        String words = "Throws `UnsupportedOperationException` if it is refused for reason 2; the reason is kept for refusal";
        holds(words, "aloft, landed and lost", OUT + refused("loadAll(0)", 2, 0) + refused("loadAll(1)", 2, 1) + refused("loadAll(2)", 2, 2));
        holds(words, "also if a letter waits that would fit", OUT + "letter(1, 2);" + refused("loadAll(0)", 2, 0) + "letterOf(0, 2) -> 0;");
    }

    private static void launch() {
        section = "Promise 12: launch";
        holds("Launches a balloon.", "one alone", "balloon(10); balloon(10); fill(0, 1); fill(1, 1); launch(1); sign(0) -> t; sign(1) -> a; account(5) -> 1;");
        holds("Returns what its gas bears.", "0, 1 and the most", "gas(99); balloon(10); fill(0, 1); launch(0) -> 0; balloon(10); fill(1, 2); launch(1) -> 1;"
                + "balloon(99); fill(2, 99); launch(2) -> 89;");
        holds(NO_BALLOON, "too small or too large", noBalloon("launch(B)"));
        holds(NO_BALLOON, "none", noBalloonAtAll("launch(B)"));
        String words = "Throws `UnsupportedOperationException` if it is refused for reason 2 or 9; the reason is kept for refusal";
        holds(words, "aloft, landed and lost", OUT + refused("launch(0)", 2, 0) + refused("launch(1)", 2, 1) + refused("launch(2)", 2, 2));
        holds(words, "its gas bears one less than 0", "balloon(10);" + refused("launch(0)", 9, 1) + "sign(0) -> t; fill(0, 1); launch(0) -> 0;");
        holds(words, "its gas bears much less than 0", "balloon(99); ballast(0, 50); fill(0, 10);" + refused("launch(0)", 9, 50));
    }

    private static void drop() {
        section = "Promise 13: drop";
        String ready = "balloon(99); ballast(0, 50); fill(0, 99); launch(0) -> 39;";
        holds("Lets ballast go from a balloon that is aloft.", "all of it", ready + "drop(0, 50); balloonOf(0, 2) -> 0; account(15) -> 50; balloonOf(0, 6) -> 89;");
        holds("Lets ballast go from a balloon that is aloft.", "what is let go does not come down with it", "wind(0, 3, 0); balloon(10); ballast(0, 3);"
                + "fill(0, 5); launch(0) -> 1; drop(0, 2); pass(4) -> 1; account(14) -> 3; account(15) -> 2; account(16) -> 1;");
        holds("- `amount`: how much, 1 to 50", "the least and the most", ready + "drop(0, 1) -> 49; undo(); drop(0, 50) -> 0;");
        holds("Returns its ballast then.", "until none is left", ready + "drop(0, 1) -> 49; drop(0, 48) -> 1; drop(0, 1) -> 0;");
        holds(NO_BALLOON, "too small or too large", noBalloon("drop(B, 1)"));
        holds(NO_BALLOON, "none", noBalloonAtAll("drop(B, 1)"));
        holds(OUT_OF_RANGE, "too small", ready + "drop(0, 0)" + ILLEGAL + "drop(0, -1)" + ILLEGAL + "drop(0, MIN)" + ILLEGAL + "balloonOf(0, 2) -> 50;");
        holds(OUT_OF_RANGE, "too large", ready + "drop(0, 51)" + ILLEGAL + "drop(0, MAX)" + ILLEGAL + "balloonOf(0, 2) -> 50;");
        String words = "Throws `UnsupportedOperationException` if it is refused for reason 3 or 7; the reason is kept for refusal";
        holds(words, "in the town", "balloon(99); ballast(0, 50); fill(0, 99);" + refused("drop(0, 1)", 3, 0) + "balloonOf(0, 2) -> 50;");
        holds(words, "landed and lost", OUT + refused("drop(1, 1)", 3, 1) + refused("drop(2, 1)", 3, 2) + "drop(0, 1) -> 0;");
        holds(words, "it has one less", ready + "drop(0, 20) -> 30;" + refused("drop(0, 31)", 7, 30) + "drop(0, 30) -> 0;");
        holds(words, "it has none", ready + "drop(0, 50) -> 0;" + refused("drop(0, 1)", 7, 0) + refused("drop(0, 50)", 7, 0));
    }

    private static void pass() {
        section = "Promise 14: pass";
        holds("Lets hours go by.", "one by one, or together", "wind(0, 3, 0); wind(1, 0, 1); balloon(10); fill(0, 7); launch(0) -> 6; 4 * pass(1); balloonOf(0, 9) -> 26;"
                + "balloonOf(0, 10) -> 22; account(0) -> 4; balloonOf(0, 11) -> 4; 4 * undo(); pass(4); balloonOf(0, 9) -> 26; balloonOf(0, 10) -> 22;"
                + "account(0) -> 4; balloonOf(0, 11) -> 4;");
        holds("- `hours`: how many, 1 to 48", "the least and the most", "pass(1) -> 0; account(0) -> 1; pass(48) -> 0; account(0) -> 49;");
        String sentence = "Returns how many balloons landed in them.";
        holds(sentence, "none is aloft", "balloon(10); pass(1) -> 0; pass(48) -> 0;");
        holds(sentence, "all six, in hours of their own", "ring(1); wind(0, 3, 0); 6 * balloon(10); fill(0, 2); fill(1, 2); fill(2, 3); fill(3, 3); fill(4, 4); fill(5, 5);"
                + "launch(0); launch(1); launch(2); launch(3); launch(4); launch(5); save(); pass(48) -> 6; restore(); pass(1) -> 0; pass(1) -> 2; pass(1) -> 2;"
                + "pass(1) -> 1; pass(1) -> 1; pass(1) -> 0; account(6) -> 6;");
        holds(sentence, "not those that are lost, or that landed before", OUT + "pass(48) -> 1; account(6) -> 2; account(7) -> 1; pass(48) -> 0;");
        holds(sentence, "in the last one of them, and in the hour after them", "ring(1); wind(0, 3, 0); balloon(10); fill(0, 4); launch(0); pass(3) -> 0; undo(); pass(4) -> 1;");
        holds(OUT_OF_RANGE, "too few", "pass(0)" + ILLEGAL + "pass(-1)" + ILLEGAL + "pass(MIN)" + ILLEGAL + "account(0) -> 0;");
        holds(OUT_OF_RANGE, "too many", "pass(49)" + ILLEGAL + "pass(MAX)" + ILLEGAL + "account(0) -> 0;");
        holds("Lets hours go by.", "as many as 512 calls can", "511 * pass(48) -> 0; account(0) -> 24528;");
    }
}
