/** The sentences of the section "Terms" from "Texts" to "In doubt", each with tests of its own. */
final class OrderTerms {
    private static final String ILLEGAL = "throws IllegalArgumentException;";
    private static final String REFUSED = "throws UnsupportedOperationException;";

    /** One balloon of each kind: 0 in the town, 1 aloft, 2 landed, 3 lost; and a letter in each, by the same numbers. */
    private static final String ONE_OF_EACH = """
            4 * balloon(20); 4 * letter(1, 0); load(0, 0); load(1, 1); load(2, 2); load(3, 3); ballast(0, 2); ballast(1, 2);
            fill(0, 18); fill(1, 20); fill(2, 6); fill(3, 3); wind(0, 3, 0); wind(3, -1, 0); launch(1); launch(2) -> 3;
            launch(3) -> 0; pass(4) -> 1;""";

    private OrderTerms() {
    }

    static void hold() {
        fullInput();
        orders();
        digits();
        errorPositions();
        earlyEnds();
        carryingOut();
        orderOfReasons();
        reasonsOfRows();
        reasonsOfGasAndBallast();
        changes();
        noChanges();
        latestChanges();
        exceptions();
        whatStays();
        inDoubt();
    }

    private static void holds(String words, String aCase, String script) {
        Sentences.holds("Terms", words, aCase, script);
    }

    private static String text(String text) {
        return "append \"" + text + "\";";
    }

    /** A text with an error at a position. */
    private static String wrong(String text, int position) {
        return text(text) + "read() -> " + ILLEGAL + "errorPosition() -> " + position + ";";
    }

    private static void fullInput() {
        String sentence = "The input has at most 60 characters.";
        String longest = "h1;".repeat(18) + "h01;h1";
        holds(sentence, "full", "append \"" + "x".repeat(59) + "\" -> 59; append \"x\" -> 60; append \"x\" -> throws IllegalStateException;"
                + "append \"y\" -> throws IllegalStateException; account(19) -> 60;");
        holds(sentence, "a full one can be read, and is not full then", text(longest) + "append \";\" -> throws IllegalStateException;"
                + "read() -> 20; account(0) -> 20; append \"x\" -> 1;");
        holds(sentence, "a full one that ends too early", wrong("h1;".repeat(20), 60) + "account(0) -> 0;");
        holds(sentence, "empty", "account(19) -> 0; read() -> " + ILLEGAL + "account(19) -> 0;");
    }

    private static void orders() {
        String words = "A text consists of orders with a semicolon between two of them";
        holds(words, "one and two orders", text("h1") + "read() -> 1;" + text("h1;h2") + "read() -> 2; account(0) -> 4;");
        holds(words, "no order", "read() -> " + ILLEGAL + "errorPosition() -> 0;");
        holds(words, "nothing ahead of a semicolon, or between two", wrong(";", 0) + wrong(";h1", 0) + wrong("h1;;h1", 3));
        holds(words, "nothing behind a semicolon", wrong("h1;", 3) + wrong("h1;h1;", 6));
        holds(words, "no semicolon", wrong("h1h1", 2) + wrong("h1 h1", 2) + wrong("h1,h1", 2) + "account(0) -> 0;");
        holds("\"f\", a balloon, \"=\" and a number fills it with so much gas", "as fill does",
                "balloon(10); balloon(40);" + text("f1=33") + "read() -> 1; balloonOf(1, 1) -> 33; account(2) -> 67;");
        holds("\"b\", a balloon, \"+\" and a number lays ballast into it", "as ballast does",
                "balloon(10); balloon(40);" + text("b1+50") + "read() -> 1; balloonOf(1, 2) -> 50; account(14) -> 50;");
        holds("\"d\", a balloon, \"-\" and a number lets ballast go", "as drop does", "balloon(10); balloon(90); ballast(1, 50);"
                + "fill(1, 80); launch(1) -> 21;" + text("d1-49") + "read() -> 1; balloonOf(1, 2) -> 1; account(15) -> 49;");
        holds("\"l\" and a number loads this letter into the balloon behind \"@\"", "as load does", "balloon(10); balloon(40);"
                + "13 * letter(9, 0);" + text("l12@1") + "read() -> 1; letterOf(12, 3) -> 1; letterOf(1, 3) -> -1; balloonOf(1, 5) -> 7;");
        holds("\"u\" and a balloon launches it", "as launch does",
                "balloon(10); balloon(10); fill(1, 3);" + text("u1") + "read() -> 1; sign(0) -> t; sign(1) -> a;");
        holds("\"h\" and a number lets hours go by", "as pass does", text("h48") + "read() -> 1; account(0) -> 48;");
        holds("\"w\", a height, \":\", a number of the wind, \",\", and another one sets a wind.", "as wind does",
                text("w5:-3,3") + "read() -> 1; wind(5, 0, 0) -> -27;" + text("w0:3,-3") + "read() -> 1; wind(0, 0, 0) -> 27;");
    }

    private static void digits() {
        String sentence = "Balloons and heights are one digit, numbers one or two digits; a number of a wind is a digit, with \"-\""
                + " ahead of it or not.";
        holds(sentence, "a balloon of two digits", "balloon(10);" + wrong("f00=1", 2) + wrong("b00+1", 2) + wrong("d00-1", 2)
                + wrong("u00", 2) + "letter(1, 0);" + wrong("l0@00", 4));
        holds(sentence, "a balloon of no digit", wrong("f=1", 1) + wrong("b+1", 1) + wrong("d-1", 1) + wrong("l0@", 3) + wrong("u", 1));
        holds(sentence, "a digit without a balloon is no error", text("u9") + "read() -> " + ILLEGAL + "errorPosition() -> -1;");
        holds(sentence, "a height of two digits or none", wrong("w00:1,1", 2) + wrong("w:1,1", 1));
        holds(sentence, "a digit without a height is no error", text("w6:1,1") + "read() -> " + ILLEGAL + "errorPosition() -> -1;"
                + text("w9:1,1") + "read() -> " + ILLEGAL + "errorPosition() -> -1;");
        holds(sentence, "numbers of one and of two digits", "balloon(99); 11 * letter(1, 0);"
                + text("f0=9;f0=10;f0=09;b0+1;b0+01;b0+10;h1;h01;h10") + "read() -> 9; balloonOf(0, 1) -> 28; balloonOf(0, 2) -> 12;"
                + "account(0) -> 12;" + text("l1@0;l00@0;l10@0") + "read() -> 3; balloonOf(0, 4) -> 3; fill(0, 20);"
                + text("u0;d0-9;d0-03") + "read() -> 3; balloonOf(0, 2) -> 0;");
        holds(sentence, "numbers of three digits", "balloon(99); letter(1, 0);" + wrong("f0=010", 5) + wrong("b0+010", 5)
                + wrong("d0-010", 5) + wrong("l000@0", 3) + wrong("h010", 3) + "account(0) -> 0;");
        holds(sentence, "numbers of no digit", wrong("f0=;", 3) + wrong("b0+x", 3) + wrong("d0-@", 3) + wrong("l@0", 1) + wrong("hh", 1));
        holds(sentence, "what stands ahead of and behind the digits", wrong("h/", 1) + wrong("h:", 1) + text("h09") + "read() -> 1;"
                + wrong("f0=-1", 3) + wrong("h-1", 1) + wrong("u-1", 1));
        holds(sentence, "a wind of -0", "wind(3, 1, 1);" + text("w3:-0,0") + "read() -> 1; wind(3, 0, 0) -> 0;");
        holds(sentence, "a wind of two digits, with two signs, or +", wrong("w0:10,1", 4) + wrong("w0:1,10", 6) + wrong("w0:--1,1", 4)
                + wrong("w0:1,--1", 6) + wrong("w0:+1,1", 3) + wrong("w0:-,1", 4) + wrong("w0:1,-", 6) + wrong("w0:-10,1", 5));
        holds(sentence, "a digit that is no wind is no error", text("w0:4,0") + "read() -> " + ILLEGAL + "errorPosition() -> -1;"
                + text("w0:0,-9") + "read() -> " + ILLEGAL + "errorPosition() -> -1; wind(0, 0, 0) -> 0;");
    }

    private static void errorPositions() {
        String words = "The error position of a text is the offset of the first character that cannot continue such a text";
        holds(words, "the first character", wrong("x", 0) + wrong("0", 0) + wrong(" h1", 0) + wrong("H1", 0) + wrong("a0", 0) + wrong("g0=1", 0));
        holds(words, "the first one of an order behind others", wrong("h1;x", 3) + wrong("h1;h1; h1", 6) + wrong("h1;u0;h1;8", 9));
        holds(words, "another sign behind a balloon or a letter", wrong("f0+1", 2) + wrong("b0-1", 2) + wrong("d0=1", 2) + wrong("l0=0", 2)
                + wrong("l10=0", 3) + wrong("w0=1,1", 2) + wrong("w0:1:1", 4));
        holds(words, "of two wrong ones the first", wrong("f0=1x;y", 4) + wrong("hxx", 1) + wrong("f0+x", 2));
        holds(words, "at the very end", wrong("h1;".repeat(19) + "hx", 58) + wrong("h1;".repeat(19) + "h1x", 59));
        holds(words, "also if an order ahead of it cannot be", wrong("u0;hx", 4) + "refusal(false) -> throws NoSuchElementException;");
    }

    private static void earlyEnds() {
        String words = "or the length of the text if it ends too early.";
        holds(words, "empty", "read() -> " + ILLEGAL + "errorPosition() -> 0;");
        holds(words, "in each order", wrong("f", 1) + wrong("f0", 2) + wrong("f0=", 3) + wrong("b", 1) + wrong("b0", 2) + wrong("b0+", 3)
                + wrong("d", 1) + wrong("d0", 2) + wrong("d0-", 3) + wrong("l", 1) + wrong("l0", 2) + wrong("l00", 3) + wrong("l0@", 3)
                + wrong("u", 1) + wrong("h", 1) + wrong("w", 1) + wrong("w0", 2) + wrong("w0:", 3) + wrong("w0:-", 4) + wrong("w0:1", 4)
                + wrong("w0:1,", 5) + wrong("w0:1,-", 6));
        holds(words, "behind a semicolon", wrong("h1;", 3) + wrong("u0;h1;", 6));
        holds(words, "what an earlier text left behind it does not count", text("h12;h1") + "read() -> 2;" + wrong("h", 1) + wrong("h12;", 4)
                + text("h1") + "read() -> 1; account(0) -> 14;");
        holds(words, "full", wrong("h1;".repeat(19) + "f0=", 60));
    }

    private static void carryingOut() {
        String sentence = "A text is carried out if each order can be, one after the other; else nothing of it is, and the first order"
                + " that cannot be decides what is thrown.";
        holds(sentence, "one order makes the next one possible", "balloon(10);" + text("u0") + "read() -> " + REFUSED
                + text("f0=1;u0") + "read() -> 2; sign(0) -> a;");
        holds(sentence, "one order makes the next one impossible", "balloon(10); fill(0, 5);" + text("u0;b0+1") + "read() -> " + REFUSED
                + "sign(0) -> t; refusal(false) -> 2;");
        holds(sentence, "the last of many orders cannot be", "balloon(30); letter(1, 0);" + text("f0=9;b0+3;l0@0;w1:1,1;u0;h2;d0-1;u0")
                + "read() -> " + REFUSED + "balloonOf(0, 1) -> 0; balloonOf(0, 2) -> 0; letterOf(0, 2) -> 0; sign(0) -> t; account(0) -> 0;"
                + "account(2) -> 100; account(14) -> 0; account(15) -> 0; account(18) -> 0; account(20) -> 2; wind(1, 0, 0) -> 0;");
        holds(sentence, "a balloon is lost and another one lands in between", "wind(0, 3, 0);" + text("h1") + "balloon(10); fill(0, 4);"
                + "launch(0) -> 3; balloon(10); fill(1, 1); launch(1) -> 0; read() -> 1;" + text("h9;u0") + "read() -> " + REFUSED
                + "sign(0) -> a; sign(1) -> x; account(6) -> 0; account(18) -> 2; balloonOf(0, 11) -> 1;");
        holds(sentence, "a refused order ahead of a wrong one", "balloon(10);" + text("h1;u0;h0") + "read() -> " + REFUSED
                + "refusal(false) -> 9; refusal(true) -> 1; account(0) -> 0;");
        holds(sentence, "a wrong order ahead of a refused one", "balloon(10);" + text("h1;h0;u0") + "read() -> " + ILLEGAL
                + "refusal(false) -> throws NoSuchElementException; errorPosition() -> -1; account(0) -> 0;");
        holds(sentence, "the first of two that are refused", "balloon(10); balloon(20);" + text("d0-1;u1") + "read() -> " + REFUSED
                + "refusal(false) -> 3;" + text("u1;d0-1") + "read() -> " + REFUSED + "refusal(false) -> 9; refusal(true) -> 2;");
    }

    private static void orderOfReasons() {
        String words = "Something is refused for the first that applies of the reasons that its method names, in the order in which it"
                + " names them, with a detail";
        holds(words, "fill: 2 ahead of 4 and 5", "balloon(10); fill(0, 10); launch(0); balloon(90); fill(1, 90); fill(0, 1) -> " + REFUSED
                + "refusal(false) -> 2;");
        holds(words, "fill: 4 ahead of 5", "balloon(99); fill(0, 99); balloon(10); fill(1, 11) -> " + REFUSED + "refusal(false) -> 4;"
                + "gas(10); fill(1, 11) -> " + REFUSED + "refusal(false) -> 5;");
        holds(words, "ballast: 2 ahead of 6", "balloon(99); ballast(0, 50); fill(0, 80); launch(0); ballast(0, 1) -> " + REFUSED
                + "refusal(false) -> 2; undo(); ballast(0, 1) -> " + REFUSED + "refusal(false) -> 6;");
        holds(words, "courier: 2 ahead of 1", "balloon(50); courier(0, 5); courier(0, 5); courier(0, 5) -> " + REFUSED
                + "refusal(false) -> 1; fill(0, 50); launch(0); courier(0, 5) -> " + REFUSED + "refusal(false) -> 2;");
        holds(words, "load: 8 ahead of 2", "balloon(10); letter(1, 0); letter(1, 0); fill(0, 10); load(0, 0); launch(0); load(0, 0) -> "
                + REFUSED + "refusal(false) -> 8; load(1, 0) -> " + REFUSED + "refusal(false) -> 2;");
        holds(words, "launch: 2 ahead of 9", "balloon(10); fill(0, 1); launch(0); pass(1); balloonOf(0, 6) -> -1; launch(0) -> " + REFUSED
                + "refusal(false) -> 2;");
        holds(words, "drop: 3 ahead of 7", "balloon(10); drop(0, 1) -> " + REFUSED + "refusal(false) -> 3; fill(0, 1); launch(0);"
                + "drop(0, 1) -> " + REFUSED + "refusal(false) -> 7;");
    }

    private static void reasonsOfRows() {
        String words = "1, there are 6 balloons or 24 letters, or the balloon has 2 couriers: this number;";
        holds(words, "6 balloons", "6 * balloon(10); balloon(10) -> " + REFUSED + "refusal(false) -> 1; refusal(true) -> 6;");
        holds(words, "24 letters", "24 * letter(1, 0); letter(1, 0) -> " + REFUSED + "refusal(false) -> 1; refusal(true) -> 24;");
        holds(words, "2 couriers", "balloon(10); courier(0, 5); courier(0, 5); courier(0, 5) -> " + REFUSED
                + "refusal(false) -> 1; refusal(true) -> 2;");
        words = "2, the balloon is not in the town: the balloon;";
        for (String call : new String[] {"fill(B, 1)", "ballast(B, 1)", "courier(B, 5)", "load(4, B)", "loadAll(B)", "launch(B)"}) {
            holds(words, call + ": aloft, landed and lost", ONE_OF_EACH + "letter(1, 0) -> 4;" + refusedFor(call, 1, 2)
                    + refusedFor(call, 2, 2) + refusedFor(call, 3, 2));
        }
        holds("3, the balloon is not aloft: the balloon;", "in the town, landed and lost",
                ONE_OF_EACH + refusedFor("drop(B, 1)", 0, 3) + refusedFor("drop(B, 1)", 2, 3) + refusedFor("drop(B, 1)", 3, 3));
        words = "8, the letter does not wait: the letter;";
        for (String call : new String[] {"load(B, 0)", "load(B, 1)"}) {
            holds(words, call + ": loaded, aloft, delivered and lost", ONE_OF_EACH + refusedFor(call, 0, 8) + refusedFor(call, 1, 8)
                    + refusedFor(call, 2, 8) + refusedFor(call, 3, 8));
        }
        words = "9, its gas bears less than 0: how much is missing.";
        holds(words, "1", "balloon(20); fill(0, 1); launch(0) -> " + REFUSED + "refusal(false) -> 9; refusal(true) -> 1;");
        holds(words, "much", "balloon(99); ballast(0, 50); courier(0, 12); courier(0, 12); launch(0) -> " + REFUSED
                + "refusal(false) -> 9; refusal(true) -> 84;");
    }

    private static String refusedFor(String call, int number, int reason) {
        return call.replace("B", "" + number) + " -> " + REFUSED + "refusal(false) -> " + reason + "; refusal(true) -> " + number + ";";
    }

    private static void reasonsOfGasAndBallast() {
        String words = "4, there is too little gas: how much there is;";
        holds(words, "one less", "balloon(99); fill(0, 2); fill(0, 97); balloon(99); fill(1, 2) -> " + REFUSED
                + "refusal(false) -> 4; refusal(true) -> 1; fill(1, 1) -> 1;");
        holds(words, "none", "balloon(99); fill(0, 99); balloon(10); fill(1, 1); fill(1, 1) -> " + REFUSED
                + "refusal(false) -> 4; refusal(true) -> 0;");
        words = "5, it would hold more gas than its size: how much more fits;";
        holds(words, "one less", "balloon(50); fill(0, 40); fill(0, 11) -> " + REFUSED + "refusal(false) -> 5; refusal(true) -> 10; fill(0, 10) -> 50;");
        holds(words, "none", "balloon(50); fill(0, 50); fill(0, 1) -> " + REFUSED + "refusal(false) -> 5; refusal(true) -> 0;");
        holds(words, "all", "balloon(50); fill(0, 99) -> " + REFUSED + "refusal(false) -> 5; refusal(true) -> 50;");
        words = "6, it would have more ballast than 50: how much more fits;";
        holds(words, "one less", "balloon(10); ballast(0, 30); ballast(0, 21) -> " + REFUSED + "refusal(false) -> 6; refusal(true) -> 20; ballast(0, 20) -> 50;");
        holds(words, "none", "balloon(10); ballast(0, 50); ballast(0, 1) -> " + REFUSED + "refusal(false) -> 6; refusal(true) -> 0;");
        words = "7, it has less ballast: how much it has;";
        holds(words, "one less", "balloon(90); ballast(0, 20); fill(0, 90); launch(0); drop(0, 21) -> " + REFUSED
                + "refusal(false) -> 7; refusal(true) -> 20; drop(0, 20) -> 0;");
        holds(words, "none", "balloon(90); fill(0, 90); launch(0); drop(0, 1) -> " + REFUSED + "refusal(false) -> 7; refusal(true) -> 0;");
    }

    private static void changes() {
        String words = "The changes are the successful calls of ring, wind, gas, balloon, fill, ballast, courier, letter, load, loadAll,"
                + " launch, drop, pass and read";
        String start = "balloon(20); balloon(20); fill(1, 10); ballast(1, 1); launch(1) -> 7; letter(1, 0); undo() -> 5; undo() -> 4; undo() -> 3;"
                + "undo() -> 2; ballast(1, 1); fill(1, 10); launch(1) -> 7; letter(1, 0); account(20) -> 6;" + text("h1");
        for (String call : new String[] {"ring(2)", "wind(0, 1, 0)", "gas(1)", "balloon(10)", "fill(0, 1)", "ballast(0, 1)", "courier(0, 5)",
            "letter(1, 1)", "load(0, 0)", "loadAll(0)", "drop(1, 1)", "pass(1)", "read()"}) {
            holds(words, call, start + call + "; account(20) -> 7; undo() -> 6; account(20) -> 6;");
        }
        holds(words, "launch(0)", start + "fill(0, 2); account(20) -> 7; launch(0); account(20) -> 8; undo() -> 7; sign(0) -> t;");
        words = "also if nothing is different then.";
        holds(words, "the same ring", "ring(5) -> 5; account(20) -> 1; undo() -> 0; account(1) -> 5;");
        holds(words, "the same wind", "wind(0, 0, 0) -> 0; account(20) -> 1; undo() -> 0;");
        holds(words, "gas that is lost", "10 * gas(999) -> 9999; gas(1) -> 9999; undo() -> 7; account(2) -> 9999; undo() -> 6;"
                + "account(2) -> 9091;");
        holds(words, "no letter is loaded", "balloon(10); loadAll(0) -> 0; account(20) -> 2; undo() -> 1; account(3) -> 1; undo() -> 0;"
                + "account(3) -> 0;");
        holds(words, "an order that changes nothing", text("w0:0,0") + "read() -> 1; account(20) -> 1; undo() -> 0;");
    }

    private static void noChanges() {
        String words = "The changes are the successful calls of ring, wind, gas, balloon, fill, ballast, courier, letter, load, loadAll,"
                + " launch, drop, pass and read";
        holds(words, "calls that fail are none", "ring(2); ring(0) -> " + ILLEGAL + "wind(6, 0, 0) -> throws IndexOutOfBoundsException;"
                + "gas(0) -> " + ILLEGAL + "balloon(9) -> " + ILLEGAL + "fill(0, 1) -> throws IndexOutOfBoundsException;"
                + "balloon(10); fill(0, 11) -> " + REFUSED + "ballast(0, 51) -> " + ILLEGAL + "courier(0, 4) -> " + ILLEGAL
                + "letter(0, 0) -> " + ILLEGAL + "load(0, 0) -> throws IndexOutOfBoundsException; loadAll(1) -> throws IndexOutOfBoundsException;"
                + "launch(0) -> " + REFUSED + "drop(0, 1) -> " + REFUSED + "pass(49) -> " + ILLEGAL + "read() -> " + ILLEGAL
                + "account(20) -> 2; undo() -> 1; account(3) -> 0; undo() -> 0; account(1) -> 5;");
        holds(words, "questions, append, save and restore are none", ONE_OF_EACH + "account(20) -> 8; undo() -> 7; balloonOf(1, 0); letterOf(0, 0);"
                + "weightAgain(0); sign(1); isWithin(0, 0); endsIn(1); ends(1, 0); bestDrop(1); errorPosition(); account(0); isWell();" + text("h1")
                + "save() -> 4; account(20) -> 7; undo() -> 6; restore() -> 4; account(20) -> 0;");
    }

    private static void latestChanges() {
        String words = "The latest 8 can be undone";
        holds(words, "none", "account(20) -> 0; undo() -> throws IllegalStateException;");
        holds(words, "8 of 8", "8 * gas(1) -> 108; account(20) -> 8; undo() -> 7; 7 * undo() -> 0; account(2) -> 100;"
                + "undo() -> throws IllegalStateException;");
        holds(words, "8 of 9", "9 * gas(1) -> 109; account(20) -> 8; 8 * undo() -> 0; account(2) -> 101;"
                + "undo() -> throws IllegalStateException; account(2) -> 101;");
        holds(words, "8 of 10", "10 * gas(1) -> 110; account(20) -> 8; 8 * undo() -> 0; account(2) -> 102;"
                + "undo() -> throws IllegalStateException;");
        holds(words, "8 of many, one by one", "100 * gas(1) -> 200; undo() -> 7; account(2) -> 199; undo() -> 6; account(2) -> 198; undo() -> 5;"
                + "account(2) -> 197; undo() -> 4; account(2) -> 196; undo() -> 3; account(2) -> 195; undo() -> 2; account(2) -> 194;"
                + "undo() -> 1; account(2) -> 193; undo() -> 0; account(2) -> 192; undo() -> throws IllegalStateException;");
        holds(words, "changes between them", "12 * gas(1) -> 112; 5 * undo() -> 3; 2 * gas(10) -> 127; account(20) -> 5; undo() -> 4;"
                + "account(2) -> 117; undo() -> 3; account(2) -> 107; 3 * undo() -> 0; account(2) -> 104;"
                + "undo() -> throws IllegalStateException; 9 * gas(1) -> 113; account(20) -> 8; 8 * undo() -> 0; account(2) -> 105;");
        words = "restore forgets all.";
        holds(words, "none can be undone", "save(); 9 * gas(1); restore() -> 0; account(20) -> 0; account(2) -> 100;"
                + "undo() -> throws IllegalStateException;");
        holds(words, "only later ones can be", "gas(1); save(); 3 * gas(1); restore(); gas(5) -> 106; gas(5) -> 111; account(20) -> 2;"
                + "undo() -> 1; account(2) -> 106; undo() -> 0; account(2) -> 101; undo() -> throws IllegalStateException;");
    }

    private static void exceptions() {
        String sentence = "A method that throws an exception leaves the state unchanged unless its documentation says otherwise.";
        String rich = ONE_OF_EACH + "save(); gas(5); letter(2, 2); courier(0, 5); append \"l4@\"; launch(2) -> " + REFUSED;
        holds(sentence, "numbers that are out of range", rich + "ring(16) -> " + ILLEGAL + "wind(5, 1, 4) -> " + ILLEGAL + "wind(5, 4, 1) -> " + ILLEGAL + "gas(1000) -> " + ILLEGAL
                + "balloon(100) -> " + ILLEGAL + "fill(0, 100) -> " + ILLEGAL + "ballast(0, 51) -> " + ILLEGAL + "courier(0, 13) -> " + ILLEGAL
                + "letter(9, 3) -> " + ILLEGAL + "drop(1, 51) -> " + ILLEGAL + "pass(49) -> " + ILLEGAL + "account(21) -> " + ILLEGAL
                + "balloonOf(0, 12) -> " + ILLEGAL + "letterOf(0, 4) -> " + ILLEGAL + "ends(1, 3) -> " + ILLEGAL);
        holds(sentence, "what is refused", rich + "fill(0, 3) -> " + REFUSED + "ballast(0, 49) -> " + REFUSED + "courier(1, 5) -> " + REFUSED
                + "load(1, 0) -> " + REFUSED + "loadAll(1) -> " + REFUSED + "launch(1) -> " + REFUSED + "drop(1, 3) -> " + REFUSED
                + "drop(2, 1) -> " + REFUSED);
        holds(sentence, "what is not there", rich + "wind(6, 1, 1) -> throws IndexOutOfBoundsException; fill(4, 1) -> throws"
                + " IndexOutOfBoundsException; load(5, 0) -> throws IndexOutOfBoundsException; load(4, 4) -> throws IndexOutOfBoundsException;"
                + "loadAll(4) -> throws IndexOutOfBoundsException; launch(4) -> throws IndexOutOfBoundsException; word(1) -> throws"
                + " NoSuchElementException; endsIn(2) -> throws NoSuchElementException; bestDrop(0) -> throws NoSuchElementException;"
                + "waiting(1) -> throws NoSuchElementException;");
        holds(sentence, "what read says otherwise: the input alone", rich + "read() -> " + ILLEGAL + "account(19) -> 0;" + text("b0+1;u2") + "read() -> "
                + REFUSED + "account(19) -> 0;" + text("b0+1;h0") + "read() -> " + ILLEGAL + "account(19) -> 0;");
        sentence = "If several exceptions apply, the one that is documented first is thrown.";
        holds(sentence, "no such thing, and a number out of range", "wind(6, 4, 4) -> throws IndexOutOfBoundsException; fill(0, 0) -> throws"
                + " IndexOutOfBoundsException; ballast(0, 0) -> throws IndexOutOfBoundsException; courier(0, 0) -> throws IndexOutOfBoundsException;"
                + "drop(0, 0) -> throws IndexOutOfBoundsException; balloonOf(0, 12) -> throws IndexOutOfBoundsException; letterOf(0, 4) -> throws"
                + " IndexOutOfBoundsException; ends(0, 3) -> throws IndexOutOfBoundsException;");
        holds(sentence, "a number out of range, and a reason", "6 * balloon(10); 24 * letter(1, 0); fill(0, 10); courier(0, 5); launch(0);"
                + "balloon(9) -> " + ILLEGAL + "letter(0, 0) -> " + ILLEGAL + "letter(1, 3) -> " + ILLEGAL + "fill(0, 0) -> " + ILLEGAL
                + "ballast(0, 0) -> " + ILLEGAL + "courier(0, 0) -> " + ILLEGAL + "drop(1, 0) -> " + ILLEGAL
                + "refusal(false) -> throws NoSuchElementException;");
        holds(sentence, "no such thing, and a reason", "balloon(10); letter(1, 0); load(0, 0); load(0, 1) -> throws IndexOutOfBoundsException;"
                + "fill(0, 5); launch(0); load(1, 0) -> throws IndexOutOfBoundsException; refusal(false) -> throws NoSuchElementException;");
        holds(sentence, "a number out of range, and a balloon that is not aloft", "balloon(10); ends(0, 3) -> " + ILLEGAL
                + "ends(0, -1) -> " + ILLEGAL + "ends(0, 0) -> throws NoSuchElementException;");
        holds(sentence, "an error in a text, and a reason", "balloon(10);" + text("u0;u0;") + "read() -> " + ILLEGAL
                + "refusal(false) -> throws NoSuchElementException;");
    }

    private static void whatStays() {
        String sentence = "The input, the error position and the reason are neither undone nor saved, and stay.";
        holds(sentence, "the input", "gas(1); append \"h\"; save(); append \"1\"; undo() -> 0; account(19) -> 2; restore(); account(19) -> 2;"
                + "read() -> 1; undo() -> 0; account(19) -> 0; restore(); account(19) -> 0;");
        holds(sentence, "the error position", wrong("h1x", 2) + "gas(1); save(); undo(); errorPosition() -> 2;" + wrong("hx", 1)
                + "restore(); errorPosition() -> 1;" + text("h1") + "read() -> 1; errorPosition() -> -1; undo(); errorPosition() -> -1; restore();"
                + "errorPosition() -> -1;");
        holds(sentence, "the reason", "balloon(30); save(); fill(0, 31) -> " + REFUSED + "refusal(true) -> 30; fill(0, 10); fill(0, 31) -> " + REFUSED
                + "undo(); refusal(false) -> 5; refusal(true) -> 20; drop(0, 1) -> " + REFUSED + "restore(); refusal(false) -> 3; refusal(true) -> 0;");
        holds(sentence, "the reason of a text of which nothing is carried out", "balloon(10);" + text("f0=5;u0;u0") + "read() -> " + REFUSED
                + "refusal(false) -> 2; refusal(true) -> 0; undo(); refusal(false) -> 2;");
    }

    private static void inDoubt() {
        String sentence = "What is told of the letters, the ballast and the gas of a balloon stays when it is not aloft any more.";
        String loaded = "wind(0, 3, 0); letter(2, 0); letter(2, 0); balloon(10); ballast(0, 2); load(0, 0); load(1, 0) -> 5; fill(0, 8); launch(0) -> 3;";
        String stays = "balloonOf(0, 4) -> 2; balloonOf(0, 2) -> 2; balloonOf(0, 1) -> 4; balloonOf(0, 5) -> 5; balloonOf(0, 6) -> -1;"
                + "letterOf(1, 3) -> 0; weightAgain(0) -> 5; pass(9); balloonOf(0, 1) -> 4; balloonOf(0, 2) -> 2; balloonOf(0, 4) -> 2;";
        holds(sentence, "landed", loaded + "pass(4) -> 1; sign(0) -> l;" + stays);
        holds(sentence, "lost", loaded + "ring(15); pass(4) -> 0; sign(0) -> x;" + stays);
        sentence = "A balloon that is lost off the map is told to be at its place beyond it.";
        holds(sentence, "by one and by three", "wind(5, 3, 3); balloon(99); fill(0, 99); launch(0); pass(6); balloonOf(0, 9) -> 38; wind(5, 2, 0);"
                + "pass(9); balloonOf(0, 9) -> 40; balloonOf(0, 10) -> 38; gas(99); balloon(99); wind(5, 0, -2); fill(1, 99); launch(1); pass(10);"
                + "balloonOf(1, 10) -> 0; sign(1) -> a; wind(5, 0, -3); pass(1); balloonOf(1, 10) -> -3; balloonOf(1, 9) -> 20;");
        sentence = "The hour in which a balloon comes down is one for which it was aloft.";
        holds(sentence, "landed", "wind(0, 3, 0); balloon(10); fill(0, 3); launch(0); endsIn(0) -> 3; pass(48) -> 1; balloonOf(0, 11) -> 3;");
        holds(sentence, "lost in its first hour", "balloon(10); fill(0, 1); launch(0); endsIn(0) -> 1; pass(48); balloonOf(0, 11) -> 1;");
        holds("Of a balloon with two couriers one word comes.", "as soon as of one with one courier", "ring(1); wind(0, 3, 0); balloon(10);"
                + "courier(0, 5); courier(0, 5); fill(0, 10); launch(0) -> " + REFUSED + "balloon(20); courier(1, 5); courier(1, 5); fill(1, 13);"
                + "launch(1) -> 1; pass(2) -> 1; word(1) -> 2; pass(48); account(13) -> 1;");
        sentence = "A letter that does not fit is passed over, and later ones may fit.";
        holds(sentence, "by number", "balloon(10); fill(0, 3); letter(7, 1); letter(6, 1); letter(1, 1); loadAll(0) -> 1; letterOf(0, 2) -> 0;"
                + "letterOf(1, 2) -> 1; letterOf(2, 2) -> 0;");
        holds(sentence, "by rank", "balloon(10); fill(0, 2); letter(3, 0); letter(4, 2); letter(1, 1); loadAll(0) -> 1; letterOf(2, 2) -> 1;"
                + "letterOf(1, 2) -> 0; letterOf(0, 2) -> 0;");
        holds(sentence, "none fits", "balloon(10); fill(0, 1); letter(1, 0); letter(1, 2); loadAll(0) -> 0; account(9) -> 2;");
        sentence = "A text without an error has no error position, also if it is refused.";
        holds(sentence, "carried out", wrong("x", 0) + text("h1") + "read() -> 1; errorPosition() -> -1;");
        holds(sentence, "refused", "balloon(10);" + wrong("x", 0) + text("u0") + "read() -> " + REFUSED + "errorPosition() -> -1;");
        holds(sentence, "with a number that is out of range", wrong("x", 0) + text("h0") + "read() -> " + ILLEGAL + "errorPosition() -> -1;");
    }
}
