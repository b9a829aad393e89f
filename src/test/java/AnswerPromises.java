/** The sentences of the promises 15 to 35: what an object tells, texts, undo and the snapshot. */
final class AnswerPromises {
    private static final String NO_BALLOON = "Throws `IndexOutOfBoundsException` if there is no such balloon";
    private static final String ILLEGAL = " -> throws IllegalArgumentException;";
    private static final String NO_INDEX = " -> throws IndexOutOfBoundsException;";
    private static final String REFUSED = " -> throws UnsupportedOperationException;";
    private static final String NO_ELEMENT = " -> throws NoSuchElementException;";
    private static final String NO_STATE = " -> throws IllegalStateException;";
    private static final String NO_NUMBER = " -> throws ArithmeticException;";

    /** It bears 4: it drifts by 3 in each of four hours and lands in the fifth one, at 32, 20; word comes in the hour 7. */
    private static final String FLIGHT = "wind(0, 3, 0); balloon(10); fill(0, 10); courier(0, 5); launch(0) -> 4;";

    private static String section = "";

    private AnswerPromises() {
    }

    static void hold() {
        balloonOf();
        letterOf();
        weightAgain();
        waiting();
        word();
        sign();
        isWithin();
        endsIn();
        ends();
        bestDrop();
        append();
        read();
        readRefused();
        errorPosition();
        refusal();
        account();
        isWell();
        means();
        undo();
        save();
        restore();
    }

    private static void holds(String words, String aCase, String script) {
        Sentences.holds(section, words, aCase, script);
    }

    private static void balloonOf() {
        section = "Promise 15: balloonOf";
        String letters = "letter(7, 0); letter(6, 0); ";
        holds("Returns a number of a balloon.", "of the first and of the last one", "balloon(10); 5 * balloon(20); fill(5, 7); balloonOf(0, 0) -> 10;"
                + "balloonOf(5, 0) -> 20; balloonOf(5, 1) -> 7; balloonOf(4, 1) -> 0;");
        String words = "0 for its size, 1 for its gas, 2 for its ballast, 3 for its couriers, 4 for its letters, 5 for its weight, 6 for what its gas"
                + " bears, less than 0 if it bears less, 7 for 0 in the town, 1 aloft, 2 landed and 3 lost, 8 for its height, 9 for its x, 10 for its y,"
                + " 11 for the hours for which it was aloft";
        holds(words, "each of them in the town", letters + "balloon(55); load(0, 0); load(1, 0); fill(0, 30); ballast(0, 4); courier(0, 8); balloonOf(0, 0) -> 55;"
                + "balloonOf(0, 1) -> 30; balloonOf(0, 2) -> 4; balloonOf(0, 3) -> 1; balloonOf(0, 4) -> 2; balloonOf(0, 5) -> 23; balloonOf(0, 6) -> 7;"
                + "balloonOf(0, 7) -> 0; balloonOf(0, 8) -> 0; balloonOf(0, 9) -> 20; balloonOf(0, 10) -> 20; balloonOf(0, 11) -> 0;");
        holds(words, "each of them aloft", letters + "balloon(55); load(0, 0); load(1, 0); fill(0, 30); ballast(0, 4); courier(0, 8); launch(0); wind(1, 2, -1);"
                + "pass(1); balloonOf(0, 0) -> 55; balloonOf(0, 1) -> 28; balloonOf(0, 2) -> 4; balloonOf(0, 3) -> 1; balloonOf(0, 4) -> 2; balloonOf(0, 5) -> 23;"
                + "balloonOf(0, 6) -> 5; balloonOf(0, 7) -> 1; balloonOf(0, 8) -> 1; balloonOf(0, 9) -> 22; balloonOf(0, 10) -> 19; balloonOf(0, 11) -> 1;");
        holds(words, "landed", FLIGHT + "pass(48); balloonOf(0, 1) -> 5; balloonOf(0, 6) -> -1; balloonOf(0, 7) -> 2; balloonOf(0, 8) -> 0; balloonOf(0, 9) -> 32;"
                + "balloonOf(0, 10) -> 20; balloonOf(0, 11) -> 5;");
        holds(words, "lost", FLIGHT + "ring(15); pass(48); balloonOf(0, 7) -> 3; balloonOf(0, 8) -> 0; balloonOf(0, 9) -> 32; balloonOf(0, 11) -> 5;");
        holds("less than 0 if it bears less", "0 and one less", "balloon(20); fill(0, 1); balloonOf(0, 6) -> -1; fill(0, 1); balloonOf(0, 6) -> 0;");
        holds("Returns the number.", "the least and the most that can be borne", "balloon(99); fill(0, 99); balloonOf(0, 6) -> 89; balloon(99); 24 * letter(9, 0);"
                + "ballast(1, 50); courier(1, 12); courier(1, 12);" + loadEach(1) + "balloonOf(1, 5) -> 156; balloonOf(1, 6) -> -156;");
        holds(NO_BALLOON, "too small or too large", ChangePromises.noBalloon("balloonOf(B, 0)"));
        holds(NO_BALLOON, "none, also if what is wrong, too", "balloonOf(0, 0)" + NO_INDEX + "balloonOf(0, 12)" + NO_INDEX + "balloonOf(0, -1)" + NO_INDEX);
        words = "Throws `IllegalArgumentException` if what is not from 0 to 11";
        holds(words, "too small", "balloon(10); balloonOf(0, -1)" + ILLEGAL + "balloonOf(0, MIN)" + ILLEGAL + "balloonOf(0, 0) -> 10;");
        holds(words, "too large", "balloon(10); balloonOf(0, 12)" + ILLEGAL + "balloonOf(0, MAX)" + ILLEGAL + "balloonOf(0, 11) -> 0;");
    }

    private static String loadEach(int balloon) {
        StringBuilder calls = new StringBuilder();
        for (int i = 0; i < 24; i++) {
            calls.append("load(").append(i).append(", ").append(balloon).append(");");
        }
        return calls.toString();
    }

    private static void letterOf() {
        section = "Promise 16: letterOf";
        holds("Returns a number of a letter.", "of the first and of the last one", "letter(9, 2); 22 * letter(1, 0); letter(3, 1); letterOf(0, 0) -> 9;"
                + "letterOf(0, 1) -> 2; letterOf(23, 0) -> 3; letterOf(23, 1) -> 1; letterOf(22, 1) -> 0;");
        String words = "0 for its sheets, 1 for its rank, 2 for 0 if it waits, 1 if it is loaded, 2 if it is delivered and 3 if it is lost, 3 for its"
                + " balloon, -1 if it waits";
        String two = "letter(1, 0); letter(2, 2); letter(9, 1); balloon(10); balloon(10); load(0, 1); load(1, 0); fill(1, 5); fill(0, 2); wind(0, 3, 0);";
        holds(words, "it waits", two + "letterOf(2, 0) -> 9; letterOf(2, 1) -> 1; letterOf(2, 2) -> 0; letterOf(2, 3) -> -1;");
        holds(words, "it is loaded, in the town and aloft", two + "letterOf(0, 2) -> 1; letterOf(0, 3) -> 1; letterOf(1, 2) -> 1; letterOf(1, 3) -> 0; launch(1);"
                + "pass(1); sign(1) -> a; letterOf(0, 2) -> 1; letterOf(0, 3) -> 1;");
        holds(words, "it is delivered", two + "launch(1); pass(4) -> 1; letterOf(0, 2) -> 2; letterOf(0, 3) -> 1; letterOf(0, 0) -> 1;");
        holds(words, "it is lost", two + "launch(0) -> 0; pass(1); letterOf(1, 2) -> 3; letterOf(1, 3) -> 0; letterOf(1, 1) -> 2;");
        holds("Returns the number.", "the last balloon", "6 * balloon(10); letter(1, 0); load(0, 5); letterOf(0, 3) -> 5;");
        words = "Throws `IndexOutOfBoundsException` if there is no such letter";
        holds(words, "none, also if what is wrong, too", "letterOf(0, 0)" + NO_INDEX + "letterOf(0, 4)" + NO_INDEX + "letterOf(0, -1)" + NO_INDEX);
        holds(words, "too small", "letter(1, 0); letterOf(-1, 0)" + NO_INDEX + "letterOf(MIN, 0)" + NO_INDEX + "letterOf(0, 0) -> 1;");
        holds(words, "too large", "letter(1, 0); letterOf(1, 0)" + NO_INDEX + "letterOf(MAX, 0)" + NO_INDEX + "23 * letter(2, 0); letterOf(23, 0) -> 2;"
                + "letterOf(24, 0)" + NO_INDEX);
        words = "Throws `IllegalArgumentException` if what is not from 0 to 3";
        holds(words, "too small", "letter(1, 0); letterOf(0, -1)" + ILLEGAL + "letterOf(0, MIN)" + ILLEGAL + "letterOf(0, 0) -> 1;");
        holds(words, "too large", "letter(1, 0); letterOf(0, 4)" + ILLEGAL + "letterOf(0, MAX)" + ILLEGAL + "letterOf(0, 3) -> -1;");
    }

    private static void weightAgain() {
        section = "Promise 17: weightAgain";
        String sentence = "Returns the weight of a balloon, found in another way: letter by letter, from sheets that are left over.";
        holds(sentence, "no letter", "balloon(10); weightAgain(0) -> 1; balloon(99); ballast(1, 50); courier(1, 5); courier(1, 12); weightAgain(1) -> 77;");
        holds(sentence, "1, 2, 3 and 4 sheets", "4 * balloon(10); letter(1, 0); letter(2, 0); letter(3, 0); letter(4, 0); load(0, 0); load(1, 1); load(2, 2);"
                + "load(3, 3); weightAgain(0) -> 2; weightAgain(1) -> 2; weightAgain(2) -> 2; weightAgain(3) -> 3;");
        holds(sentence, "sheets that are left over make a third together", "balloon(10); letter(2, 0); letter(2, 0); letter(2, 0); letter(1, 0); load(0, 0);"
                + "weightAgain(0) -> 2; load(1, 0); weightAgain(0) -> 3; load(2, 0); weightAgain(0) -> 3; load(3, 0); weightAgain(0) -> 4;");
        holds(sentence, "the letters of another balloon are not weighed", "balloon(10); balloon(10); letter(9, 0); letter(1, 0); letter(5, 0); load(0, 0); load(1, 1);"
                + "weightAgain(0) -> 4; weightAgain(1) -> 2;");
        holds("Returns the weight.", "as much as can be", "balloon(99); 24 * letter(9, 0); ballast(0, 50); courier(0, 12); courier(0, 12);" + loadEach(0)
                + "weightAgain(0) -> 156;");
        holds("Returns the weight.", "it stays when it is not aloft any more", FLIGHT + "weightAgain(0) -> 6; pass(48) -> 1; weightAgain(0) -> 6;");
        holds(NO_BALLOON, "too small or too large", ChangePromises.noBalloon("weightAgain(B)"));
        holds(NO_BALLOON, "none", "weightAgain(0)" + NO_INDEX);
    }

    private static void waiting() {
        section = "Promise 18: waiting";
        String sentence = "Returns a letter by the order in which letters that wait would be gone through.";
        holds(sentence, "the greatest rank first, then by number", "letter(1, 0); letter(1, 2); letter(1, 1); letter(1, 2); letter(1, 0); letter(1, 1); waiting(0) -> 1;"
                + "waiting(1) -> 3; waiting(2) -> 2; waiting(3) -> 5; waiting(4) -> 0; waiting(5) -> 4;");
        holds(sentence, "only those that wait", "letter(1, 2); letter(1, 1); letter(1, 0); balloon(10); load(0, 0); waiting(0) -> 1; load(1, 0); waiting(0) -> 2;"
                + "undo(); waiting(0) -> 1;");
        holds("- `place`: its place, from 0", "too small", "letter(1, 0); waiting(0) -> 0; waiting(-1)" + NO_ELEMENT + "waiting(MIN)" + NO_ELEMENT);
        holds("Returns the letter.", "the last of all", "23 * letter(1, 0); letter(1, 2); waiting(0) -> 23; waiting(1) -> 0; waiting(23) -> 22;");
        String words = "Throws `NoSuchElementException` if there is no such place";
        holds(words, "none waits", "waiting(0)" + NO_ELEMENT + "letter(1, 0); balloon(10); load(0, 0); waiting(0)" + NO_ELEMENT);
        holds(words, "one too large", "letter(1, 2); letter(1, 0); waiting(1) -> 1; waiting(2)" + NO_ELEMENT + "22 * letter(1, 1); waiting(23) -> 1; waiting(24)" + NO_ELEMENT);
        holds(words, "much too large", "letter(1, 0); waiting(24)" + NO_ELEMENT + "waiting(MAX)" + NO_ELEMENT);
    }

    private static void word() {
        section = "Promise 19: word";
        String sentence = "Returns the hour at whose end word of a balloon came or will come.";
        holds(sentence, "it will come, comes now, and came", FLIGHT + "pass(5) -> 1; word(0) -> 7; pass(2); account(0) -> 7; account(13) -> 0; word(0) -> 7; pass(1);"
                + "account(13) -> 1; word(0) -> 7; pass(48); word(0) -> 7;");
        holds("Returns the hour.", "of a balloon that was launched later", "pass(48);" + FLIGHT + "pass(48) -> 1; word(0) -> 55;");
        holds(NO_BALLOON, "too small or too large", ChangePromises.noBalloon("word(B)"));
        holds(NO_BALLOON, "none", "word(0)" + NO_INDEX);
        String words = "Throws `NoSuchElementException` if it has not landed or has no courier";
        holds(words, "in the town and aloft", "balloon(10); courier(0, 5); word(0)" + NO_ELEMENT + "undo(); undo();" + FLIGHT + "word(0)" + NO_ELEMENT
                + "pass(4); word(0)" + NO_ELEMENT + "pass(1) -> 1; word(0) -> 7;");
        holds(words, "lost", FLIGHT + "ring(12); pass(5) -> 0; word(0)" + NO_ELEMENT);
        holds(words, "landed without a courier", "wind(0, 3, 0); balloon(10); fill(0, 5); launch(0) -> 4; pass(5) -> 1; word(0)" + NO_ELEMENT);
    }

    private static void sign() {
        section = "Promise 20: sign";
        holds("Returns the sign of a balloon.", "each of its own", FLIGHT + "balloon(10); sign(0) -> a; sign(1) -> t;");
        String sentence = "Returns \"t\" in the town, \"a\" aloft, \"l\" landed, \"x\" lost.";
        holds(sentence, "until it lands", "balloon(10); sign(0) -> t; undo();" + FLIGHT + "sign(0) -> a; pass(4); sign(0) -> a; pass(1); sign(0) -> l;");
        holds(sentence, "until it is lost", "ring(12);" + FLIGHT + "pass(4); sign(0) -> a; pass(1); sign(0) -> x;");
        holds(NO_BALLOON, "too small or too large", ChangePromises.noBalloon("sign(B)"));
        holds(NO_BALLOON, "none", "sign(0)" + NO_INDEX);
    }

    private static void isWithin() {
        section = "Promise 21: isWithin";
        holds("Tells whether a place is within the ring.", "at its edge and beyond it", "isWithin(25, 20) -> true; isWithin(26, 20) -> false; isWithin(15, 20) -> true;"
                + "isWithin(14, 20) -> false; isWithin(20, 25) -> true; isWithin(20, 26) -> false; isWithin(20, 15) -> true; isWithin(20, 14) -> false;");
        holds("Returns whether it is.", "with the largest ring and the smallest one", "ring(15); isWithin(5, 35) -> true; isWithin(4, 35) -> false; isWithin(5, 36) -> false;"
                + "ring(1); isWithin(19, 19) -> true; isWithin(19, 18) -> false; isWithin(18, 19) -> false;");
        String words = "Throws `IndexOutOfBoundsException` if there is no such place";
        holds(words, "an x that is too small or too large", "isWithin(-1, 0)" + NO_INDEX + "isWithin(40, 0)" + NO_INDEX + "isWithin(MIN, 0)" + NO_INDEX
                + "isWithin(MAX, 0)" + NO_INDEX + "isWithin(0, 0) -> false; isWithin(39, 0) -> false;");
        holds(words, "a y that is too small or too large", "isWithin(39, -1)" + NO_INDEX + "isWithin(39, 40)" + NO_INDEX + "isWithin(39, MIN)" + NO_INDEX
                + "isWithin(39, MAX)" + NO_INDEX + "isWithin(39, 0) -> false; isWithin(39, 39) -> false;");
    }

    private static void endsIn() {
        section = "Promise 22: endsIn";
        String sentence = "Returns in how many hours a balloon that is aloft would not be aloft any more, if only hours went by.";
        holds(sentence, "in one", "balloon(10); fill(0, 1); launch(0) -> 0; endsIn(0) -> 1; sign(0) -> a; pass(1); sign(0) -> x;");
        holds(sentence, "in as many as can be", "balloon(99); fill(0, 99); launch(0); endsIn(0) -> 36; pass(35); sign(0) -> a; endsIn(0) -> 1; pass(1); sign(0) -> x;");
        holds(sentence, "off the map", FLIGHT + "pass(3); balloonOf(0, 9) -> 29; endsIn(0) -> 2; undo(); undo(); ballast(0, 1); undo(); undo(); undo();"
                + "wind(1, 3, 0); wind(2, 3, 0); fill(0, 10); launch(0) -> 9; endsIn(0) -> 7; pass(6); sign(0) -> a; pass(1); sign(0) -> x;");
        holds("Returns how many hours.", "fewer by each hour", FLIGHT + "endsIn(0) -> 5; pass(1); endsIn(0) -> 4; pass(3); endsIn(0) -> 1; account(0) -> 4;");
        holds(NO_BALLOON, "too small or too large", ChangePromises.noBalloon("endsIn(B)"));
        holds(NO_BALLOON, "none", "endsIn(0)" + NO_INDEX);
        notAloft("endsIn(0)", "Throws `NoSuchElementException` if it is not aloft");
    }

    private static void notAloft(String call, String words) {
        holds(words, call + " in the town", "balloon(10); fill(0, 10);" + call + NO_ELEMENT);
        holds(words, call + " landed", FLIGHT + "pass(5) -> 1;" + call + NO_ELEMENT);
        holds(words, call + " lost", FLIGHT + "ring(15); pass(5) -> 0;" + call + NO_ELEMENT);
    }

    private static void ends() {
        section = "Promise 23: ends";
        holds("Returns where a balloon that is aloft would be when it is not aloft any more, if only hours went by.", "nothing is changed by it",
                FLIGHT + "ends(0, 0) -> 32; ends(0, 1) -> 20; ends(0, 2) -> 2; balloonOf(0, 9) -> 20; balloonOf(0, 1) -> 10; balloonOf(0, 11) -> 0;"
                + "account(18) -> 0; account(0) -> 0; sign(0) -> a; account(20) -> 5;");
        String words = "- `what`: 0 for its x, 1 for its y, 2 for 2 if it would have landed and 3 if it would be lost";
        holds(words, "it would have landed, just beyond the ring", FLIGHT + "wind(0, 3, -2); ring(11); ends(0, 0) -> 32; ends(0, 1) -> 12; ends(0, 2) -> 2;");
        holds(words, "it would be lost, just within the ring", FLIGHT + "wind(0, -2, 3); ring(12); ends(0, 0) -> 12; ends(0, 1) -> 32; ends(0, 2) -> 3;");
        holds("Returns the number.", "it would be off the map", "wind(5, 0, -3); balloon(99); fill(0, 99); launch(0); ends(0, 0) -> 20; ends(0, 1) -> -1;"
                + "ends(0, 2) -> 3; wind(5, 3, 0); ends(0, 0) -> 41;");
        holds("Returns the number.", "it would come down where it is", FLIGHT + "pass(4); ends(0, 0) -> 32; balloonOf(0, 9) -> 32; endsIn(0) -> 1;");
        holds(NO_BALLOON, "too small or too large", ChangePromises.noBalloon("ends(B, 0)"));
        holds(NO_BALLOON, "none, also if what is wrong, too", "ends(0, 0)" + NO_INDEX + "ends(0, 3)" + NO_INDEX);
        words = "Throws `IllegalArgumentException` if what is not from 0 to 2";
        holds(words, "too small", FLIGHT + "ends(0, -1)" + ILLEGAL + "ends(0, MIN)" + ILLEGAL + "ends(0, 0) -> 32;");
        holds(words, "too large", FLIGHT + "ends(0, 3)" + ILLEGAL + "ends(0, MAX)" + ILLEGAL + "ends(0, 2) -> 2;");
        holds(words, "also if it is not aloft", "balloon(10); ends(0, 3)" + ILLEGAL + "ends(0, -1)" + ILLEGAL);
        notAloft("ends(0, 0)", "Throws `NoSuchElementException` if it is not aloft");
        notAloft("ends(0, 2)", "Throws `NoSuchElementException` if it is not aloft");
    }

    private static void bestDrop() {
        section = "Promise 24: bestDrop";
        String sentence = "Returns how much ballast should be let go now from a balloon that is aloft so that it would land farthest from the town, if only"
                + " hours went by then; of several the least.";
        holds(sentence, "of several the least", "wind(0, 3, 0); balloon(10); fill(0, 10); ballast(0, 3); launch(0) -> 6; bestDrop(0) -> 0;");
        holds(sentence, "of several the least, more than 0", "wind(1, 3, 0); wind(0, 1, 0); balloon(10); fill(0, 10); ballast(0, 5); launch(0) -> 4; ends(0, 0) -> 24;"
                + "ends(0, 2) -> 3; ring(1); bestDrop(0) -> 4; drop(0, 4); ends(0, 0) -> 36; undo(); drop(0, 5); ends(0, 0) -> 36;");
        holds(sentence, "all of it", "wind(0, 0, 1); wind(1, 0, 1); wind(2, 0, 1); balloon(10); fill(0, 10); ballast(0, 4); launch(0) -> 5; bestDrop(0) -> 4;"
                + "drop(0, 4); ends(0, 1) -> 29;");
        holds(sentence, "not so much that it would be lost off the map", "wind(0, 3, 0); wind(1, 3, 0); balloon(20); fill(0, 10); ballast(0, 3); launch(0) -> 5;"
                + "bestDrop(0) -> 1; drop(0, 1); ends(0, 0) -> 38; drop(0, 1); ends(0, 2) -> 3;");
        holds(sentence, "from all the ballast that can be", "gas(100); wind(5, 1, 0); wind(4, 1, 0); wind(3, 1, 0); wind(2, 1, 0); wind(1, 1, 0); wind(0, 1, 0); balloon(99);"
                + "ballast(0, 50); fill(0, 75); launch(0) -> 15; ends(0, 2) -> 3; bestDrop(0) -> 38; drop(0, 37); ends(0, 0) -> 38; undo();"
                + "drop(0, 38); ends(0, 0) -> 39; undo(); drop(0, 39); ends(0, 0) -> 39; ends(0, 2) -> 2; undo(); drop(0, 40); ends(0, 2) -> 3;");
        holds("Returns how much, 0 if none should be.", "it has none", FLIGHT + "bestDrop(0) -> 0;");
        holds("Returns how much, 0 if none should be.", "letting go would make it come down nearer", "wind(0, 3, 0); balloon(10); fill(0, 6); ballast(0, 1); launch(0) -> 4;"
                + "wind(1, -3, 0); bestDrop(0) -> 0; ends(0, 0) -> 32; drop(0, 1); ends(0, 0) -> 29;");
        holds("Returns how much, 0 if none should be.", "nothing is changed by it", "wind(0, 0, 1); balloon(10); fill(0, 4); ballast(0, 1); launch(0) -> 2; ring(1);"
                + "bestDrop(0) -> 1; balloonOf(0, 2) -> 1; balloonOf(0, 10) -> 20; account(15) -> 0; account(20) -> 6;");
        holds(NO_BALLOON, "too small or too large", ChangePromises.noBalloon("bestDrop(B)"));
        holds(NO_BALLOON, "none", "bestDrop(0)" + NO_INDEX);
        String words = "Throws `NoSuchElementException` if it is not aloft, or would be lost with any";
        notAloft("bestDrop(0)", words);
        holds(words, "it would be lost within the ring with any", "wind(0, 3, 0); balloon(10); fill(0, 5); ballast(0, 2); launch(0) -> 2; ring(12); bestDrop(0)" + NO_ELEMENT
                + "ring(11); bestDrop(0) -> 2;");
        holds(words, "it would be lost off the map with any", "wind(5, 3, 0); balloon(99); fill(0, 99); ballast(0, 5); launch(0); bestDrop(0)" + NO_ELEMENT);
        holds(words, "it would be lost and has no ballast", "balloon(10); fill(0, 10); launch(0); bestDrop(0)" + NO_ELEMENT);
    }

    private static void append() {
        section = "Promise 25: append";
        holds("Appends a character to the input.", "of any kind, behind the others", "append \"h\"; append \"3\"; read() -> 1; account(0) -> 3; append \"\u0000\" -> 1;"
                + "append \"\uffff\" -> 2; append \" \" -> 3; read()" + ILLEGAL + "errorPosition() -> 0;");
        holds("Returns the characters in the input then.", "the first and the last one", "append \"x\" -> 1; append \"" + "x".repeat(58) + "\" -> 59; append \"x\" -> 60;");
        String words = "Throws `IllegalStateException` if the input contains 60 characters";
        holds(words, "full", "append \"" + "x".repeat(60) + "\" -> 60; append \"x\"" + NO_STATE + "append \"x\"" + NO_STATE + "account(19) -> 60;");
        holds(words, "not full", "append \"" + "x".repeat(59) + "\" -> 59; append \"x\" -> 60;");
        holds(words, "not full any more", "append \"" + "x".repeat(60) + "\" -> 60; append \"x\"" + NO_STATE + "read()" + ILLEGAL + "append \"x\" -> 1;");
    }

    private static void read() {
        section = "Promise 26: read";
        String sentence = "Carries out the text in the input, which is empty afterwards, also if an exception is thrown.";
        holds(sentence, "carried out", "append \"h1\"; read() -> 1; account(19) -> 0; account(0) -> 1; read()" + ILLEGAL + "account(0) -> 1;");
        holds(sentence, "it is empty already", "read()" + ILLEGAL + "account(19) -> 0; append \"h1\" -> 2; read() -> 1;");
        holds(sentence, "the text has an error", "append \"h1;x\"; read()" + ILLEGAL + "account(19) -> 0; append \"h2\" -> 2; read() -> 1; account(0) -> 2;");
        holds(sentence, "an order is wrong", "append \"h0\"; read()" + ILLEGAL + "account(19) -> 0; append \"h2\" -> 2; read() -> 1; account(0) -> 2;");
        holds(sentence, "it is refused", "balloon(10); append \"u0\"; read()" + REFUSED + "account(19) -> 0; append \"h2\" -> 2; read() -> 1; account(0) -> 2;");
        holds("Returns the number of orders.", "one, and as many as there can be", "append \"h1\"; read() -> 1; append \"" + "h1;".repeat(19) + "h1\" -> 59; read() -> 20;"
                + "append \"" + "h1;".repeat(18) + "h11;h1\" -> 60; read() -> 20; append \"" + "h11;".repeat(14) + "h1;h\"; read()" + ILLEGAL + "account(0) -> 51;");
        String words = "Throws `IllegalArgumentException` if the text has an error, or the method for an order would throw another exception than"
                + " UnsupportedOperationException; if the text has no error, its position is -1";
        holds(words, "the text has an error", "append \"h1;h\"; read()" + ILLEGAL + "errorPosition() -> 4; account(0) -> 0;");
        String[] wrong = {"f6=1", "f0=0", "f0=00", "b6+1", "b0+0", "b0+51", "b0+99", "d6-1", "d0-0", "d0-51", "l1@0", "l24@0", "l0@1", "l0@9", "u1", "u9", "h0", "h49",
            "h99", "w6:0,0", "w9:0,0", "w0:4,0", "w0:-4,0", "w0:0,4", "w0:0,-4", "w5:9,-9"};
        for (String order : wrong) {
            holds(words, order, "balloon(10); letter(1, 0); append \"x\"; read()" + ILLEGAL + "append \"" + order + "\"; read()" + ILLEGAL
                    + "errorPosition() -> -1; append \"h1;" + order + ";h1\"; read()" + ILLEGAL + "errorPosition() -> -1; account(0) -> 0;"
                    + "refusal(false)" + NO_ELEMENT);
        }
        holds(words, "what is just right", "balloon(99); letter(1, 0); append \"f0=99;b0+50;l0@0;u0;d0-50;h48;w5:3,-3;w0:-3,3\"; read() -> 8; errorPosition() -> -1;");
    }

    private static void readRefused() {
        String words = "Throws `UnsupportedOperationException` if it is refused for a reason of the method for an order; the reason is kept for refusal";
        String start = "balloon(20); balloon(99); letter(1, 0); letter(1, 0); letter(1, 0); load(0, 0); fill(0, 10); ballast(0, 1); launch(0);";
        String[] orders = {"f0=1", "f1=91", "f1=99", "b0+1", "b1+50;b1+1", "d1-1", "d0-2", "l0@1", "l1@0", "u0", "u1"};
        int[] reasons = {2, 4, 4, 2, 6, 3, 7, 8, 2, 2, 9};
        int[] details = {0, 90, 90, 0, 0, 1, 1, 0, 0, 0, 10};
        for (int i = 0; i < orders.length; i++) {
            holds(words, orders[i], start + "append \"h1;" + orders[i] + "\"; read()" + REFUSED + "refusal(false) -> " + reasons[i] + "; refusal(true) -> " + details[i]
                    + "; account(0) -> 0; errorPosition() -> -1; account(19) -> 0;");
        }
        holds(words, "f0=21", "balloon(20); append \"f0=1;f0=20\"; read()" + REFUSED + "refusal(false) -> 5; refusal(true) -> 19; balloonOf(0, 1) -> 0;");
    }

    private static void errorPosition() {
        section = "Promise 27: errorPosition";
        String sentence = "Returns the error position of the text of the latest call of read.";
        holds(sentence, "of the latest one, and not of the input", "append \"h1;x\"; read()" + ILLEGAL + "errorPosition() -> 3; append \"x\"; errorPosition() -> 3; read()"
                + ILLEGAL + "errorPosition() -> 0; append \"h\"; read()" + ILLEGAL + "errorPosition() -> 1;");
        holds(sentence, "of an empty and of a full one", "read()" + ILLEGAL + "errorPosition() -> 0; append \"" + "h1;".repeat(20) + "\" -> 60; read()" + ILLEGAL
                + "errorPosition() -> 60; append \"" + "h1;".repeat(19) + "h1;\"; read()" + ILLEGAL + "errorPosition() -> 60;");
        sentence = "Returns the error position, or -1 if that text had no error or read has not been called.";
        holds(sentence, "read has not been called", "errorPosition() -> -1; append \"x\"; errorPosition() -> -1;");
        holds(sentence, "no error after one", "append \"x\"; read()" + ILLEGAL + "append \"h1\"; read() -> 1; errorPosition() -> -1;");
        holds(sentence, "no error, but it is refused or wrong", "append \"x\"; read()" + ILLEGAL + "append \"u0\"; read()" + ILLEGAL + "errorPosition() -> -1; balloon(10);"
                + "append \"x\"; read()" + ILLEGAL + "errorPosition() -> 0; append \"u0\"; read()" + REFUSED + "errorPosition() -> -1;");
    }

    private static void refusal() {
        section = "Promise 28: refusal";
        holds("Returns the reason of the latest refusal.", "of the latest one", "balloon(10);" + "launch(0)" + REFUSED + "refusal(false) -> 9; drop(0, 1)" + REFUSED
                + "refusal(false) -> 3; fill(0, 11)" + REFUSED + "refusal(false) -> 5; launch(0)" + REFUSED + "refusal(false) -> 9;");
        holds("Returns the reason of the latest refusal.", "other exceptions and what succeeds leave it", "balloon(10); launch(0)" + REFUSED + "fill(0, 0)" + ILLEGAL
                + "launch(1)" + NO_INDEX + "read()" + ILLEGAL + "word(0)" + NO_ELEMENT + "fill(0, 1); launch(0) -> 0; refusal(false) -> 9; refusal(true) -> 1;");
        holds("Returns the reason or the detail.", "a detail of 0", "balloon(10); ballast(0, 50); ballast(0, 1)" + REFUSED + "refusal(true) -> 0; refusal(false) -> 6;");
        String words = "Throws `NoSuchElementException` if nothing was refused";
        holds(words, "nothing yet", "refusal(false)" + NO_ELEMENT + "refusal(true)" + NO_ELEMENT);
        holds(words, "only other exceptions yet", "ring(0)" + ILLEGAL + "fill(0, 1)" + NO_INDEX + "read()" + ILLEGAL + "undo()" + NO_STATE + "waiting(0)" + NO_ELEMENT
                + "refusal(false)" + NO_ELEMENT + "refusal(true)" + NO_ELEMENT);
    }

    private static void account() {
        section = "Promise 29: account";
        String life = "letter(3, 0); letter(3, 0); letter(3, 0); letter(3, 0); letter(3, 0); 4 * balloon(20); load(0, 0); load(1, 1); load(2, 2); load(3, 3);"
                + "fill(0, 13); fill(1, 20); fill(2, 12); fill(3, 4); ballast(1, 3); ballast(2, 1); ballast(3, 1); courier(2, 5);"
                + "wind(0, 3, 0); ring(4); launch(1) -> 14; launch(2) -> 3; launch(3) -> 0; pass(4) -> 1; drop(1, 2);";
        holds("Returns an account.", "of a new object", "account(0) -> 0; account(1) -> 5; account(2) -> 100; account(3) -> 0; account(20) -> 0;");
        String words = "0 for the hour, 1 for the ring, 2 for the gas in the town, 3 for the balloons, 4 for those in the town, 5 for those aloft, 6 for those that"
                + " landed, 7 for those that are lost, 8 for the letters, 9 for those that wait, 10 for those that are loaded, 11 for those that were delivered, 12 for"
                + " those that are lost, 13 for the words that were told, 14 for the ballast that was laid so far, 15 for that which was let go so far, 16 for that"
                + " which landed, 17 for that which was lost, 18 for the gas that leaked so far, 19 for the characters in the input, 20 for the changes that can be"
                + " undone";
        holds(words, "the hour and the ring", life + "account(0) -> 4; account(1) -> 4;");
        holds(words, "the gas in the town", life + "account(2) -> 51; gas(999); account(2) -> 1050;");
        holds(words, "the balloons", life + "account(3) -> 4; account(4) -> 1; account(5) -> 1; account(6) -> 1; account(7) -> 1;");
        holds(words, "the balloons, none and all", "account(3) -> 0; account(4) -> 0; 6 * balloon(10); account(3) -> 6; account(4) -> 6; account(5) -> 0; account(6) -> 0;"
                + "account(7) -> 0;");
        holds(words, "the letters", life + "account(8) -> 5; account(9) -> 1; account(10) -> 2; account(11) -> 1; account(12) -> 1;");
        holds(words, "the letters, none and all", "account(8) -> 0; account(9) -> 0; 24 * letter(1, 0); account(8) -> 24; account(9) -> 24; account(10) -> 0; account(11) -> 0;"
                + "account(12) -> 0;");
        holds(words, "the words that were told", life + "word(2) -> 5; account(13) -> 0; pass(1); account(13) -> 0; pass(1); account(13) -> 1; undo(); account(13) -> 0;");
        holds(words, "the ballast", life + "account(14) -> 5; account(15) -> 2; account(16) -> 1; account(17) -> 1;");
        holds(words, "the gas that leaked", life + "account(18) -> 9; pass(1); account(18) -> 10; 10 * gas(999); account(18) -> 10;");
        holds(words, "the characters in the input, none and all", "account(19) -> 0; append \"" + "x".repeat(60) + "\"; account(19) -> 60; read()" + ILLEGAL + "account(19) -> 0;");
        holds(words, "the changes that can be undone, none and all", "account(20) -> 0; ring(1); account(20) -> 1; 6 * ring(1); account(20) -> 7; ring(1); account(20) -> 8; ring(1);"
                + "account(20) -> 8; undo() -> 7; account(20) -> 7;");
        holds("Returns the account.", "it stays when nothing is aloft", life + "pass(48) -> 1; pass(48) -> 0; account(5) -> 0; account(6) -> 2; account(16) -> 2; account(11) -> 2;");
        words = "Throws `IllegalArgumentException` if what is not from 0 to 20";
        holds(words, "too small", "account(-1)" + ILLEGAL + "account(MIN)" + ILLEGAL + "account(0) -> 0;");
        holds(words, "too large", "account(21)" + ILLEGAL + "account(MAX)" + ILLEGAL + "account(20) -> 0;");
    }

    private static void isWell() {
        section = "Promise 30: isWell";
        String sentence = "Returns whether this is so.";
        holds(sentence, "no ballast", "isWell() -> true; balloon(10); isWell() -> true;");
        holds(sentence, "as much ballast as can be", "6 * balloon(99); ballast(0, 50); ballast(1, 50); ballast(2, 50); ballast(3, 50); ballast(4, 50); ballast(5, 50);"
                + "isWell() -> true; gas(999); fill(0, 99); fill(1, 99); fill(2, 60); launch(0); launch(1); launch(2) -> 0; drop(0, 50); isWell() -> true; wind(0, 3, 0);"
                + "pass(48); isWell() -> true;");
        holds(sentence, "after undo and restore", "balloon(10); ballast(0, 3); save(); fill(0, 10); launch(0); drop(0, 2); undo(); isWell() -> true; pass(48); isWell() -> true;"
                + "undo(); isWell() -> true; drop(0, 3); restore(); isWell() -> true; account(14) -> 3; account(15) -> 0;");
        holds(sentence, "after a text that was refused", "balloon(20); fill(0, 20); append \"b0+9;u0;d0-5;h48;u0\"; read()" + REFUSED + "isWell() -> true; account(14) -> 0;");
    }

    private static void means() {
        section = "Promise 31: meanDistance";
        String two = FLIGHT + "balloon(10); fill(1, 4); launch(1) -> 3; pass(4) -> 1; wind(0, -1, -1);";
        holds("Returns the mean distance from the town of the places where balloons landed.", "not of those that are aloft, in the town or lost elsewhere",
                "wind(0, 3, 0); wind(1, 2, 0); wind(2, 2, 0); 4 * balloon(10); fill(0, 4); fill(1, 10); fill(2, 2); launch(0) -> 3; launch(1) -> 9;"
                + "launch(2) -> 1; pass(4) -> 1; sign(1) -> a; balloonOf(1, 9) -> 28; sign(2) -> x; balloonOf(2, 9) -> 23; sign(3) -> t;"
                + "meanDistance() -> 9.0;");
        holds("Returns the sum of the distances divided by the number of balloons, both as doubles.", "one", FLIGHT + "pass(5) -> 1; meanDistance() -> 12.0;");
        holds("Returns the sum of the distances divided by the number of balloons, both as doubles.", "no whole number", two + "pass(1) -> 1; wind(0, 0, -3); balloon(10);"
                + "fill(2, 4); launch(2); pass(4) -> 1; meanDistance() -> 10.0; balloon(10); fill(3, 3); launch(3); wind(0, 0, 3); pass(2); ring(1); wind(0, 0, 0);"
                + "pass(1) -> 1; meanDistance() -> 9.0; balloon(10); fill(4, 5); launch(4); wind(0, 2, 2); pass(5) -> 1; meanDistance() -> 8.8;");
        holds("Returns the sum of the distances divided by the number of balloons, both as doubles.", "thirds", "wind(0, 3, 0); ring(1); 3 * balloon(10); fill(0, 2); fill(1, 2);"
                + "fill(2, 3); launch(0); launch(1); launch(2); pass(3) -> 3; meanDistance() -> 4.0; balloon(10); balloon(10); balloon(10); fill(3, 3); launch(3); pass(1);"
                + "wind(0, 1, 0); pass(2) -> 1; meanDistance() -> 4.0; wind(0, 2, 0); fill(4, 2); fill(5, 2); launch(4); launch(5); pass(2) -> 2;"
                + "meanDistance() -> 3.3333333333333335;");
        String words = "Throws `ArithmeticException` if none landed";
        holds(words, "no balloon", "meanDistance()" + NO_NUMBER);
        holds(words, "in the town, aloft and lost", "balloon(10); meanDistance()" + NO_NUMBER + "fill(0, 1); launch(0); meanDistance()" + NO_NUMBER + "pass(1);"
                + "meanDistance()" + NO_NUMBER);
        holds(words, "the landing is undone", FLIGHT + "pass(5) -> 1; undo(); meanDistance()" + NO_NUMBER);
        section = "Promise 32: share";
        String flown = "letter(1, 0); letter(1, 0); letter(1, 0); balloon(10); balloon(10); load(0, 0); load(1, 1); load(2, 1); fill(0, 5); fill(1, 2); wind(0, 3, 0);";
        String sentence = "Returns the share of delivered letters among those that were delivered or lost.";
        holds(sentence, "none and all", flown + "launch(1) -> 0; pass(1); share() -> 0.0; undo(); undo(); launch(0); pass(4) -> 1; share() -> 1.0;");
        holds(sentence, "those that wait or are loaded are not counted", "letter(1, 0);" + flown + "launch(0); pass(4) -> 1; share() -> 1.0;");
        holds("Returns the one number divided by the other one, both as floats.", "a third", flown + "launch(0); launch(1); pass(4) -> 1; share() -> 0.33333334;");
        words = "Throws `ArithmeticException` if there are none";
        holds(words, "no letter", "share()" + NO_NUMBER + FLIGHT + "pass(5) -> 1; share()" + NO_NUMBER);
        holds(words, "those that there are wait or are loaded", flown + "share()" + NO_NUMBER + "launch(0); pass(3); share()" + NO_NUMBER);
    }

    private static void undo() {
        section = "Promise 33: undo";
        holds("Undoes the latest change.", "and then the one before", "ring(1); ring(2); ring(3); undo(); account(1) -> 2; undo(); account(1) -> 1; undo(); account(1) -> 5;");
        String start = "balloon(20); balloon(20); letter(3, 1); letter(2, 2); courier(1, 5); append \"l0@0;f0=12;f1=14;b0+2;b1+3;u1;w0:2,-1;h1\"; read() -> 8;"
                + "account(20) -> 6; append \"h1;w0:1,1;f0=1;d1-1;l1@0;u0\";";
        String[] changes = {"ring(2)", "wind(1, 1, 1)", "gas(1)", "balloon(10)", "fill(0, 1)", "ballast(0, 2)", "courier(0, 5)", "letter(1, 1)", "load(1, 0)",
            "loadAll(0)", "launch(0)", "drop(1, 1)", "pass(1)", "pass(48) -> 1"};
        for (String change : changes) {
            Sentences.holds(section, "Undoes the latest change.", change, start, start + change + "; account(20) -> 7; undo() -> 6;");
        }
        Sentences.holds(section, "Undoes the latest change.", "read()", start + "read() -> 6; undo() -> 6; ring(5); undo() -> 6;",
                start + "ring(5); read() -> 6; undo() -> 7; undo() -> 6;");
        holds("Undoes the latest change.", "one of many hours, landings and losses", FLIGHT + "letter(1, 0); pass(1); save(); pass(48) -> 1; undo() -> 7; sign(0) -> a;"
                + "account(0) -> 1; balloonOf(0, 9) -> 23; balloonOf(0, 1) -> 9; balloonOf(0, 11) -> 1; account(18) -> 1; account(13) -> 0; pass(48) -> 1; word(0) -> 7;");
        holds("Undoes the latest change.", "all that a text did, at once", "balloon(20); append \"f0=9;w0:1,1;u0;h2\"; read() -> 4; account(20) -> 2; undo() -> 1; balloonOf(0, 1) -> 0;"
                + "account(0) -> 0; sign(0) -> t; wind(0, 0, 0) -> 0; account(2) -> 100;");
        holds("Returns the number of changes that can still be undone.", "from 8 to none", "9 * gas(1); undo() -> 7; undo() -> 6; undo() -> 5; undo() -> 4; undo() -> 3; undo() -> 2;"
                + "undo() -> 1; undo() -> 0; undo()" + NO_STATE);
        String words = "Throws `IllegalStateException` if no change can be undone";
        holds(words, "none yet", "undo()" + NO_STATE + "save(); append \"x\"; undo()" + NO_STATE);
        holds(words, "none any more", "ring(1); undo() -> 0; undo()" + NO_STATE + "account(1) -> 5; undo()" + NO_STATE + "ring(2); undo() -> 0; undo()" + NO_STATE);
        holds(words, "older than the latest 8", "12 * gas(1) -> 112; 8 * undo() -> 0; undo()" + NO_STATE + "account(2) -> 104; gas(1) -> 105; undo() -> 0; undo()" + NO_STATE);
        holds(words, "only calls that failed", "ring(0)" + ILLEGAL + "fill(0, 1)" + NO_INDEX + "read()" + ILLEGAL + "undo()" + NO_STATE);
        holds(words, "after restore", "ring(1); save(); ring(2); restore(); undo()" + NO_STATE + "account(1) -> 1;");
    }

    private static void save() {
        section = "Promise 34: save";
        String sentence = "Takes a snapshot of what changes can change, in place of an earlier one.";
        holds(sentence, "of a new object", "save() -> 0; ring(3); balloon(10); letter(1, 1); gas(5); wind(1, 1, 1); pass(3); restore() -> 0; account(0) -> 0; account(1) -> 5;"
                + "account(2) -> 100; account(3) -> 0; account(8) -> 0; wind(1, 0, 0) -> 0;");
        holds(sentence, "in place of an earlier one", "ring(1); save(); ring(2); save(); ring(3); restore(); account(1) -> 2; undo()" + NO_STATE + "restore(); account(1) -> 2;");
        holds(sentence, "it is no change, and later ones do not change it", "ring(1); save(); account(20) -> 1; undo() -> 0; account(1) -> 5; ring(9); restore(); account(1) -> 1;");
        holds(sentence, "of a full town", "6 * balloon(10); 24 * letter(9, 2); load(23, 5); ballast(5, 50); fill(5, 10); save() -> 6; undo(); undo(); undo(); undo(); undo(); balloonOf(5, 2) -> 0;"
                + "restore() -> 6; account(8) -> 24; letterOf(23, 3) -> 5; letterOf(23, 0) -> 9; balloonOf(5, 2) -> 50; balloonOf(5, 1) -> 10; balloonOf(5, 4) -> 1;"
                + "balloonOf(5, 5) -> 54;");
        holds("Returns the balloons.", "none, one and all", "save() -> 0; balloon(10); save() -> 1; 5 * balloon(10); save() -> 6;");
    }

    private static void restore() {
        section = "Promise 35: restore";
        String sentence = "Makes everything that changes can change as it is in the snapshot, which stays.";
        holds(sentence, "again and again", "gas(1); save(); gas(1); restore(); account(2) -> 101; gas(7); restore(); account(2) -> 101; restore(); account(2) -> 101;");
        holds(sentence, "what was added since is gone, and added as new", "balloon(10); save(); balloon(20); fill(1, 5); letter(2, 2); load(0, 1); restore() -> 1; account(3) -> 1;"
                + "account(8) -> 0; balloonOf(1, 0)" + NO_INDEX + "letterOf(0, 0)" + NO_INDEX + "balloon(30) -> 1; balloonOf(1, 1) -> 0; balloonOf(1, 4) -> 0; letter(1, 0) -> 0;"
                + "letterOf(0, 2) -> 0;");
        holds(sentence, "what was undone since is there again", "balloon(10); letter(2, 2); load(0, 0); save(); undo(); undo(); undo(); restore() -> 1; balloonOf(0, 4) -> 1;"
                + "letterOf(0, 3) -> 0;");
        holds(sentence, "flights, hours, words and leaks", FLIGHT + "pass(2); save(); pass(48) -> 1; account(13) -> 1; restore(); account(13) -> 0; account(0) -> 2; sign(0) -> a;"
                + "balloonOf(0, 9) -> 26; balloonOf(0, 11) -> 2; balloonOf(0, 1) -> 8; account(18) -> 2; endsIn(0) -> 3; pass(3) -> 1; word(0) -> 7;");
        holds(sentence, "what was added otherwise, and landed otherwise, since", "ring(1); letter(9, 2); balloon(10); courier(0, 5); ballast(0, 1); save(); 4 * undo();"
                + "letter(1, 0) -> 0; balloon(30); courier(0, 12); restore() -> 1; letterOf(0, 0) -> 9; letterOf(0, 1) -> 2;"
                + "balloonOf(0, 0) -> 10; balloonOf(0, 5) -> 7; wind(0, 3, 0); fill(0, 10); launch(0) -> 3; pass(4) -> 1; word(0) -> 5; save(); undo();"
                + "wind(0, 1, 0); pass(4) -> 1; word(0) -> 4; account(16) -> 1; restore(); word(0) -> 5; balloonOf(0, 9) -> 29; account(16) -> 1;");
        holds(sentence, "the ballast that landed or was lost", "balloon(10); balloon(10); ballast(0, 1); ballast(1, 2); fill(0, 5); fill(1, 3); wind(0, 3, 0);"
                + "launch(0) -> 3; launch(1) -> 0; save(); pass(9) -> 1; account(16) -> 1; account(17) -> 2; restore(); account(16) -> 0; account(17) -> 0;"
                + "isWell() -> true;");
        holds("Returns the balloons.", "fewer and more than now", "balloon(10); save(); balloon(10); restore() -> 1; 5 * balloon(10); save() -> 6; undo(); undo(); account(3) -> 4;"
                + "restore() -> 6; account(3) -> 6;");
        String words = "Throws `IllegalStateException` if there is no snapshot";
        holds(words, "none yet", "restore()" + NO_STATE + "ring(1); restore()" + NO_STATE + "account(1) -> 1; undo() -> 0; restore()" + NO_STATE);
        holds(words, "a snapshot is not undone", "ring(1); save(); undo(); restore() -> 0; account(1) -> 1;");
    }
}
