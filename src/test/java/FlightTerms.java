/** The sentences of the section "Terms" from "Map" to "Ballast", each with tests of its own. */
final class FlightTerms {

    /** Its size is 10, so that it bears 7: six hours with the winds of the heights 0 and 1, and one with that of 0. */
    private static final String TO_THE_EDGE = "balloon(10); fill(0, 10); ballast(0, 2); launch(0) -> 7; pass(6) -> 0;";

    private FlightTerms() {
    }

    static void hold() {
        divisions();
        places();
        ring();
        winds();
        manyBalloons();
        gasAndBallast();
        couriers();
        weights();
        letters();
        launches();
        leaks();
        heights();
        comingDown();
        edgesOfTheMap();
        landings();
        heightsThatStay();
        words();
        wordsTold();
        ballast();
    }

    private static void holds(String words, String aCase, String script) {
        Sentences.holds("Terms", words, aCase, script);
    }

    private static void divisions() {
        holds("All divisions of whole numbers are rounded down, unless told otherwise.", "a quarter of 3, 4, 7 and 8", """
                balloon(10); fill(0, 5) -> 5; launch(0) -> 4; balloon(10); fill(1, 6) -> 6; launch(1) -> 5;
                balloon(10); fill(2, 9) -> 9; launch(2) -> 8; balloon(10); fill(3, 10) -> 10; launch(3) -> 9; pass(1) -> 0;
                balloonOf(0, 6) -> 3; balloonOf(0, 8) -> 0; balloonOf(1, 6) -> 4; balloonOf(1, 8) -> 1;
                balloonOf(2, 6) -> 7; balloonOf(2, 8) -> 1; balloonOf(3, 6) -> 8; balloonOf(3, 8) -> 2;""");
    }

    private static void places() {
        String sentence = "A place has an x and a y from 0 to 39.";
        holds(sentence, "the corners are places", """
                isWithin(0, 0) -> false; isWithin(39, 0) -> false; isWithin(0, 39) -> false; isWithin(39, 39) -> false;""");
        holds(sentence, "too small", """
                isWithin(-1, 20) -> throws IndexOutOfBoundsException; isWithin(20, -1) -> throws IndexOutOfBoundsException;
                isWithin(MIN, 20) -> throws IndexOutOfBoundsException;
                isWithin(20, MIN) -> throws IndexOutOfBoundsException;""");
        holds(sentence, "too large", """
                isWithin(40, 20) -> throws IndexOutOfBoundsException; isWithin(20, 40) -> throws IndexOutOfBoundsException;
                isWithin(MAX, 20) -> throws IndexOutOfBoundsException;
                isWithin(20, MAX) -> throws IndexOutOfBoundsException;""");
        sentence = "The distance of two places is the greater one of the differences of their x and of their y.";
        holds(sentence, "it is 5 in a corner of the ring, and 6 if one of them is", """
                isWithin(25, 25) -> true; isWithin(15, 25) -> true; isWithin(25, 15) -> true; isWithin(15, 15) -> true;
                isWithin(26, 25) -> false; isWithin(25, 26) -> false; isWithin(14, 15) -> false;
                isWithin(15, 14) -> false;""");
        holds(sentence, "the x or the y is the greater one, to either side", """
                balloon(10); fill(0, 4); launch(0) -> 3; wind(0, 3, -2); pass(4) -> 1; balloonOf(0, 9) -> 29;
                balloonOf(0, 10) -> 14; meanDistance() -> 9.0; balloon(10); fill(1, 5); launch(1) -> 4; wind(0, -1, 3);
                pass(5) -> 1; balloonOf(1, 9) -> 16; balloonOf(1, 10) -> 32; meanDistance() -> 10.5;""");
        holds("The town is at the x 20 and the y 20.", "it alone is amid the smallest ring", """
                ring(1); isWithin(20, 20) -> true; isWithin(19, 21) -> true; isWithin(21, 19) -> true;
                isWithin(18, 20) -> false; isWithin(22, 20) -> false; isWithin(20, 18) -> false;
                isWithin(20, 22) -> false;""");
    }

    private static void ring() {
        String sentence = "The ring is a number from 1 to 15, at first 5";
        holds(sentence, "the least and the most", "ring(1) -> 5; account(1) -> 1; ring(15) -> 1; account(1) -> 15;");
        holds(sentence, "too small", """
                ring(0) -> throws IllegalArgumentException; ring(-1) -> throws IllegalArgumentException;
                ring(MIN) -> throws IllegalArgumentException; account(1) -> 5;""");
        holds(sentence, "too large", """
                ring(16) -> throws IllegalArgumentException; ring(MAX) -> throws IllegalArgumentException;
                account(1) -> 5;""");
        holds(sentence, "at first", "account(1) -> 5; ring(7) -> 5;");
        sentence = "all places whose distance from the town is not more than it are within the ring.";
        holds(sentence, "the distance is the ring at most", """
                isWithin(25, 20) -> true; isWithin(15, 20) -> true; isWithin(20, 25) -> true; isWithin(20, 15) -> true;
                ring(1); isWithin(21, 20) -> true; isWithin(20, 19) -> true; ring(15); isWithin(35, 20) -> true;
                isWithin(20, 5) -> true;""");
        holds(sentence, "the distance is one more", """
                isWithin(26, 20) -> false; isWithin(14, 20) -> false; isWithin(20, 26) -> false; isWithin(20, 14) -> false;
                ring(1); isWithin(22, 20) -> false; isWithin(20, 18) -> false; ring(15); isWithin(36, 20) -> false;
                isWithin(20, 4) -> false;""");
    }

    private static void winds() {
        String sentence = "There are the heights 0 to 5.";
        holds(sentence, "the least and the most", """
                wind(0, 1, 2) -> 0; wind(5, 2, 1) -> 0; wind(0, 0, 0) -> 12; wind(5, 0, 0) -> 21;""");
        holds(sentence, "too small", """
                wind(-1, 0, 0) -> throws IndexOutOfBoundsException; wind(MIN, 0, 0) -> throws IndexOutOfBoundsException;""");
        holds(sentence, "too large", """
                wind(6, 0, 0) -> throws IndexOutOfBoundsException; wind(MAX, 0, 0) -> throws IndexOutOfBoundsException;""");
        sentence = "Each has a wind: by how much the x and the y of a balloon at this height become more in an hour,"
                + " each from -3 to 3, at first 0.";
        holds(sentence, "the least and the most", """
                balloon(10); fill(0, 10); launch(0); wind(2, -3, 3) -> 0; pass(1); balloonOf(0, 9) -> 17;
                balloonOf(0, 10) -> 23; wind(1, 3, -3) -> 0; pass(2); balloonOf(0, 9) -> 23; balloonOf(0, 10) -> 17;""");
        holds(sentence, "too small", """
                wind(0, -4, 0) -> throws IllegalArgumentException; wind(0, 0, -4) -> throws IllegalArgumentException;
                wind(0, MIN, 0) -> throws IllegalArgumentException; wind(0, 0, MIN) -> throws IllegalArgumentException;""");
        holds(sentence, "too large", """
                wind(0, 4, 0) -> throws IllegalArgumentException; wind(0, 0, 4) -> throws IllegalArgumentException;
                wind(0, MAX, 0) -> throws IllegalArgumentException; wind(0, 0, MAX) -> throws IllegalArgumentException;""");
        holds(sentence, "at first a balloon stays over the town at each height", """
                balloon(99); fill(0, 40); launch(0); pass(1); balloonOf(0, 8) -> 5; pass(3); balloonOf(0, 8) -> 5; pass(2);
                balloonOf(0, 8) -> 4; pass(2); balloonOf(0, 8) -> 3; pass(3); balloonOf(0, 8) -> 2; pass(4);
                balloonOf(0, 8) -> 1; pass(4); balloonOf(0, 8) -> 0; balloonOf(0, 9) -> 20; balloonOf(0, 10) -> 20;""");
    }

    private static void manyBalloons() {
        String words = "At most 6 balloons are kept, numbered from 0";
        holds(words, "full", """
                balloon(10) -> 0; balloon(11) -> 1; balloon(12) -> 2; balloon(13) -> 3; balloon(14) -> 4; balloon(15) -> 5;
                balloon(16) -> throws UnsupportedOperationException; account(3) -> 6; balloonOf(5, 0) -> 15;""");
        holds(words, "none", "account(3) -> 0; balloonOf(0, 0) -> throws IndexOutOfBoundsException;");
        holds(words, "numbers that are too small or too large", """
                balloon(10) -> 0; balloonOf(0, 0) -> 10; balloonOf(-1, 0) -> throws IndexOutOfBoundsException;
                balloonOf(1, 0) -> throws IndexOutOfBoundsException; 5 * balloon(10) -> 5; balloonOf(5, 0) -> 10;
                balloonOf(6, 0) -> throws IndexOutOfBoundsException;""");
        holds(words, "also if none of them is in the town any more", """
                6 * balloon(10) -> 5; fill(0, 1); launch(0); fill(1, 1); launch(1); fill(2, 1); launch(2); fill(3, 1);
                launch(3); fill(4, 1); launch(4); fill(5, 1); launch(5); pass(1); account(7) -> 6;
                balloon(10) -> throws UnsupportedOperationException;""");
        words = "each with a size from 10 to 99";
        holds(words, "the least and the most", "balloon(10) -> 0; balloon(99) -> 1; balloonOf(0, 0) -> 10; balloonOf(1, 0) -> 99;");
        holds(words, "too small", """
                balloon(9) -> throws IllegalArgumentException; balloon(0) -> throws IllegalArgumentException;
                balloon(MIN) -> throws IllegalArgumentException;""");
        holds(words, "too large", """
                balloon(100) -> throws IllegalArgumentException; balloon(MAX) -> throws IllegalArgumentException;""");
        holds("It is in the town, at first, aloft, landed or lost.", "one of each", """
                balloon(10); balloonOf(0, 7) -> 0; wind(0, 3, 0); fill(0, 4); launch(0); balloonOf(0, 7) -> 1; balloon(10);
                fill(1, 1); launch(1); pass(4) -> 1; balloonOf(0, 7) -> 2; balloonOf(1, 7) -> 3; balloon(10) -> 2;
                balloonOf(2, 7) -> 0;""");
    }

    private static void gasAndBallast() {
        String words = "gas, at first 0 and at most its size";
        holds(words, "at first", "balloon(99); balloonOf(0, 1) -> 0;");
        holds(words, "full", """
                balloon(10); fill(0, 9) -> 9; fill(0, 1) -> 10; fill(0, 1) -> throws UnsupportedOperationException;
                balloonOf(0, 1) -> 10; balloon(60); fill(1, 60) -> 60;
                fill(1, 1) -> throws UnsupportedOperationException;""");
        holds(words, "one more at once", """
                balloon(10); fill(0, 11) -> throws UnsupportedOperationException; fill(0, 10) -> 10; balloon(50);
                fill(1, 51) -> throws UnsupportedOperationException; fill(1, 50) -> 50;""");
        words = "ballast, at first 0 and at most 50";
        holds(words, "at first", "balloon(99); balloonOf(0, 2) -> 0; balloonOf(0, 5) -> 10;");
        holds(words, "full", """
                balloon(10); ballast(0, 49) -> 49; ballast(0, 1) -> 50;
                ballast(0, 1) -> throws UnsupportedOperationException; balloonOf(0, 2) -> 50; balloon(10);
                ballast(1, 50) -> 50;""");
        holds(words, "one more at once", """
                balloon(10); ballast(0, 1); ballast(0, 50) -> throws UnsupportedOperationException; ballast(0, 49) -> 50;""");
    }

    private static void couriers() {
        String words = "at most 2 couriers";
        holds(words, "full", """
                balloon(10); courier(0, 5) -> 1; courier(0, 5) -> 2; courier(0, 5) -> throws UnsupportedOperationException;
                balloonOf(0, 3) -> 2; balloon(10); courier(1, 5) -> 1;""");
        holds(words, "none", "balloon(10); balloonOf(0, 3) -> 0;");
        words = "each with a weight from 5 to 12";
        holds(words, "the least and the most", "balloon(10); courier(0, 5) -> 1; courier(0, 12) -> 2; balloonOf(0, 5) -> 18;");
        holds(words, "too small", """
                balloon(10); courier(0, 4) -> throws IllegalArgumentException; courier(0, 0) -> throws
                IllegalArgumentException; courier(0, MIN) -> throws IllegalArgumentException; balloonOf(0, 3) -> 0;""");
        holds(words, "too large", """
                balloon(10); courier(0, 13) -> throws IllegalArgumentException;
                courier(0, MAX) -> throws IllegalArgumentException; balloonOf(0, 3) -> 0;""");
        words = "and the letters that were loaded.";
        holds(words, "none", "balloon(10); letter(1, 1); balloonOf(0, 4) -> 0;");
        StringBuilder all = new StringBuilder("balloon(10); 24 * letter(9, 0) -> 23;");
        for (int i = 0; i < 24; i++) {
            all.append("load(").append(i).append(", 0) -> ").append(4 + 3 * i).append(';');
        }
        holds(words, "all that can be", all + "balloonOf(0, 4) -> 24; balloonOf(0, 5) -> 73; weightAgain(0) -> 73;");
    }

    private static void weights() {
        String words = "Its weight is a tenth of its size, rounded up";
        holds(words, "10 and 11, 20 and 21, 91 and 99", """
                balloon(10); balloon(11); balloon(20); balloon(21); balloon(91); balloon(99); balloonOf(0, 5) -> 1;
                balloonOf(1, 5) -> 2; balloonOf(2, 5) -> 2; balloonOf(3, 5) -> 3; balloonOf(4, 5) -> 10;
                balloonOf(5, 5) -> 10;""");
        holds(words, "90 in the other way, too", """
                balloon(90); balloon(11); weightAgain(0) -> 9; weightAgain(1) -> 2; balloonOf(0, 5) -> 9;""");
        holds("plus the ballast", "none, 1 and 50", """
                balloon(10); balloonOf(0, 5) -> 1; ballast(0, 1); balloonOf(0, 5) -> 2; ballast(0, 49);
                balloonOf(0, 5) -> 51;""");
        holds("plus the weights of its couriers", "both of them", """
                balloon(10); courier(0, 12); balloonOf(0, 5) -> 13; courier(0, 7); balloonOf(0, 5) -> 20;""");
        words = "plus a third of the sheets of all its letters together, rounded up.";
        holds(words, "1, 2, 3 and 4 sheets", """
                balloon(10); balloon(10); balloon(10); balloon(10); letter(1, 0); letter(2, 0); letter(3, 0); letter(4, 0);
                load(0, 0) -> 2; load(1, 1) -> 2; load(2, 2) -> 2; load(3, 3) -> 3;""");
        holds(words, "together, and not letter by letter", """
                balloon(10); 4 * letter(1, 0); 3 * letter(5, 0) -> 6; load(0, 0) -> 2; load(1, 0) -> 2; load(2, 0) -> 2;
                load(3, 0) -> 3; load(4, 0) -> 4; load(5, 0) -> 6; load(6, 0) -> 8;""");
        holds("What gas bears is its gas less its weight.", "less than 0, 0 and more", """
                balloon(20); balloonOf(0, 6) -> -2; fill(0, 1); balloonOf(0, 6) -> -1; fill(0, 1); balloonOf(0, 6) -> 0;
                fill(0, 18); balloonOf(0, 6) -> 18; ballast(0, 50); balloonOf(0, 6) -> -32;""");
    }

    private static void letters() {
        String words = "At most 24 letters are kept, numbered from 0";
        holds(words, "full", """
                letter(1, 0) -> 0; 22 * letter(1, 0) -> 22; letter(2, 1) -> 23;
                letter(1, 0) -> throws UnsupportedOperationException; account(8) -> 24; letterOf(23, 0) -> 2;""");
        holds(words, "none", "account(8) -> 0; letterOf(0, 0) -> throws IndexOutOfBoundsException;");
        holds(words, "numbers that are too small or too large", """
                letter(3, 0) -> 0; letterOf(0, 0) -> 3; letterOf(-1, 0) -> throws IndexOutOfBoundsException;
                letterOf(1, 0) -> throws IndexOutOfBoundsException; 23 * letter(4, 0) -> 23; letterOf(23, 0) -> 4;
                letterOf(24, 0) -> throws IndexOutOfBoundsException;""");
        holds(words, "also if they are loaded", """
                balloon(99); fill(0, 99); 24 * letter(1, 0) -> 23; loadAll(0) -> 24;
                letter(1, 0) -> throws UnsupportedOperationException;""");
        words = "each with sheets from 1 to 9";
        holds(words, "the least and the most", "letter(1, 0) -> 0; letter(9, 0) -> 1; letterOf(0, 0) -> 1; letterOf(1, 0) -> 9;");
        holds(words, "too small", """
                letter(0, 0) -> throws IllegalArgumentException; letter(MIN, 0) -> throws IllegalArgumentException;""");
        holds(words, "too large", """
                letter(10, 0) -> throws IllegalArgumentException; letter(MAX, 0) -> throws IllegalArgumentException;""");
        words = "and a rank from 0 to 2.";
        holds(words, "the least and the most", "letter(1, 0) -> 0; letter(1, 2) -> 1; letterOf(0, 1) -> 0; letterOf(1, 1) -> 2;");
        holds(words, "too small", """
                letter(1, -1) -> throws IllegalArgumentException; letter(1, MIN) -> throws IllegalArgumentException;""");
        holds(words, "too large", """
                letter(1, 3) -> throws IllegalArgumentException; letter(1, MAX) -> throws IllegalArgumentException;""");
        holds("A letter waits, at first, is loaded, delivered or lost.", "one of each", """
                letter(1, 0); letter(1, 0); letterOf(0, 2) -> 0; balloon(10); balloon(10); load(0, 0); load(1, 1);
                letterOf(0, 2) -> 1; fill(0, 5); fill(1, 2); wind(0, 3, 0); launch(0) -> 3; launch(1) -> 0;
                letterOf(0, 2) -> 1; pass(4) -> 1; letterOf(0, 2) -> 2; letterOf(1, 2) -> 3; letter(1, 0) -> 2;
                letterOf(2, 2) -> 0;""");
    }

    private static void launches() {
        String sentence = "A balloon in the town whose gas bears 0 at least can be launched";
        holds(sentence, "it bears 0", "balloon(20); fill(0, 2); balloonOf(0, 6) -> 0; launch(0) -> 0; sign(0) -> a;");
        holds(sentence, "it bears one less", """
                balloon(20); fill(0, 1); balloonOf(0, 6) -> -1; launch(0) -> throws UnsupportedOperationException;
                sign(0) -> t;""");
        holds(sentence, "it is aloft, landed or lost", """
                balloon(10); fill(0, 10); launch(0) -> 9; launch(0) -> throws UnsupportedOperationException; balloon(10);
                fill(1, 4); wind(0, 3, 0); launch(1); balloon(10); fill(2, 1); launch(2); pass(4) -> 1; sign(1) -> l;
                launch(1) -> throws UnsupportedOperationException; sign(2) -> x;
                launch(2) -> throws UnsupportedOperationException;""");
        holds("it is aloft at the place of the town then.", "also when hours went by", """
                wind(0, 3, 3); balloon(10); fill(0, 5); pass(7); launch(0) -> 4; sign(0) -> a; balloonOf(0, 9) -> 20;
                balloonOf(0, 10) -> 20; balloonOf(0, 11) -> 0; pass(1); balloonOf(0, 9) -> 23; balloonOf(0, 10) -> 23;""");
    }

    private static void leaks() {
        String sentence = "In an hour, each balloon that is aloft, by numbers, does this";
        holds(sentence, "none is there", "pass(1) -> 0; pass(48) -> 0; account(18) -> 0;");
        holds(sentence, "all six are aloft", """
                wind(0, 1, 0); 6 * balloon(10); fill(0, 4); fill(1, 4); fill(2, 4); fill(3, 4); fill(4, 4); fill(5, 4);
                launch(0); launch(1); launch(2); launch(3); launch(4); launch(5); pass(1) -> 0; account(18) -> 6;
                balloonOf(0, 9) -> 21; balloonOf(3, 9) -> 21; balloonOf(5, 9) -> 21; balloonOf(5, 1) -> 3;""");
        holds(sentence, "not one in the town, landed or lost", """
                wind(0, 3, 0); balloon(10); fill(0, 10); balloon(10); fill(1, 4); launch(1); balloon(10); fill(2, 1);
                launch(2); pass(4) -> 1; account(18) -> 5; wind(0, 1, 1); pass(9) -> 0; balloonOf(0, 1) -> 10;
                balloonOf(0, 9) -> 20; balloonOf(1, 1) -> 0; balloonOf(1, 9) -> 29; balloonOf(2, 9) -> 20;
                balloonOf(0, 11) -> 0; balloonOf(1, 11) -> 4; balloonOf(2, 11) -> 1; account(18) -> 5;""");
        sentence = "first, its gas becomes less by a twentieth of it, rounded up;";
        holds(sentence, "1 and 19", """
                balloon(10); fill(0, 1); launch(0); balloon(20); fill(1, 19); launch(1); pass(1); balloonOf(0, 1) -> 0;
                balloonOf(1, 1) -> 18;""");
        holds(sentence, "20 and 21", """
                balloon(30); fill(0, 20); launch(0); balloon(30); fill(1, 21); launch(1); pass(1); balloonOf(0, 1) -> 19;
                balloonOf(1, 1) -> 19;""");
        holds(sentence, "40 and 41", """
                balloon(50); fill(0, 40); launch(0); balloon(50); fill(1, 41); launch(1); pass(1); balloonOf(0, 1) -> 38;
                balloonOf(1, 1) -> 38;""");
        holds(sentence, "80, 81 and 99", """
                gas(500); balloon(99); fill(0, 80); launch(0); balloon(99); fill(1, 81); launch(1); balloon(99);
                fill(2, 99); launch(2); pass(1); balloonOf(0, 1) -> 76; balloonOf(1, 1) -> 76; balloonOf(2, 1) -> 94;""");
    }

    private static void heights() {
        String sentence = "otherwise its height is a quarter of what its gas bears, but at most 5";
        holds(sentence, "0 is borne", "balloon(10); fill(0, 2); launch(0) -> 1; pass(1); balloonOf(0, 6) -> 0; balloonOf(0, 8) -> 0;");
        holds(sentence, "19, 20, 23 and 24 are borne", """
                gas(500); 4 * balloon(99); fill(0, 31); launch(0); fill(1, 32); launch(1); fill(2, 35); launch(2);
                fill(3, 36); launch(3); pass(1); balloonOf(0, 6) -> 19; balloonOf(0, 8) -> 4; balloonOf(1, 6) -> 20;
                balloonOf(1, 8) -> 5; balloonOf(2, 6) -> 23; balloonOf(2, 8) -> 5; balloonOf(3, 6) -> 24;
                balloonOf(3, 8) -> 5;""");
        holds(sentence, "the most is borne", "balloon(99); fill(0, 99); launch(0) -> 89; pass(1); balloonOf(0, 6) -> 84; balloonOf(0, 8) -> 5;");
        sentence = "and it drifts by the wind of this height;";
        holds(sentence, "the wind of each height", """
                wind(0, 1, 0); wind(1, 0, 1); wind(2, -1, 0); wind(3, 0, -1); wind(4, 2, 0); wind(5, 0, 2);
                6 * balloon(50); fill(0, 6); fill(1, 10); fill(2, 14); fill(3, 18); fill(4, 23); fill(5, 27); launch(0) -> 1;
                launch(1); launch(2); launch(3); launch(4); launch(5); pass(1); balloonOf(0, 9) -> 21;
                balloonOf(0, 10) -> 20; balloonOf(1, 9) -> 20; balloonOf(1, 10) -> 21; balloonOf(2, 9) -> 19;
                balloonOf(2, 10) -> 20; balloonOf(3, 9) -> 20; balloonOf(3, 10) -> 19; balloonOf(4, 9) -> 22;
                balloonOf(4, 10) -> 20; balloonOf(5, 9) -> 20; balloonOf(5, 10) -> 22;""");
        holds(sentence, "of that which it has in this hour, not of the one ahead of it", """
                wind(1, 1, 0); wind(0, 0, 1); balloon(10); fill(0, 6); launch(0) -> 5; pass(1); balloonOf(0, 8) -> 1;
                balloonOf(0, 9) -> 21; balloonOf(0, 10) -> 20; pass(1); balloonOf(0, 8) -> 0; balloonOf(0, 9) -> 21;
                balloonOf(0, 10) -> 21;""");
    }

    private static void comingDown() {
        String sentence = "second, if its gas bears less than 0 then, it comes down where it is;";
        holds(sentence, "0 is not less than 0", "balloon(10); fill(0, 2); launch(0) -> 1; pass(1); balloonOf(0, 6) -> 0; sign(0) -> a;");
        holds(sentence, "it bears one less", """
                wind(0, 3, 0); balloon(10); fill(0, 3); launch(0) -> 2; pass(2); sign(0) -> a; balloonOf(0, 9) -> 26;
                pass(1) -> 1; sign(0) -> l; balloonOf(0, 6) -> -1; balloonOf(0, 9) -> 26;""");
        holds(sentence, "the wind does not bear it off the map then", """
                wind(0, 3, 0); wind(1, 3, 0);""" + TO_THE_EDGE + """
                wind(0, 1, 0); pass(1) -> 0; balloonOf(0, 9) -> 39; wind(0, 3, 3); pass(1) -> 1; sign(0) -> l;
                balloonOf(0, 9) -> 39; balloonOf(0, 10) -> 20; meanDistance() -> 19.0;""");
        holds(sentence, "it bears much less, and after the first hour", """
                balloon(99); fill(0, 60); ballast(0, 50) -> 50; launch(0) -> 0; pass(1) -> 0; sign(0) -> x;
                balloonOf(0, 6) -> -3;""");
        sentence = "Each hour in which it does this is one for which it was aloft.";
        holds(sentence, "none yet, one, and no more", """
                balloon(10); pass(3); fill(0, 3); launch(0); balloonOf(0, 11) -> 0; pass(1); balloonOf(0, 11) -> 1; pass(1);
                balloonOf(0, 11) -> 2; pass(48); balloonOf(0, 11) -> 3; pass(48); balloonOf(0, 11) -> 3;""");
        holds(sentence, "the one in which it drifts off the map, too", """
                wind(0, 3, 0); wind(1, 3, 0);""" + TO_THE_EDGE + """
                balloonOf(0, 11) -> 6; pass(9); sign(0) -> x; balloonOf(0, 11) -> 7;""");
    }

    private static void edgesOfTheMap() {
        String sentence = "third, if its x or its y is less than 0 or greater than 39 then, it is lost.";
        holds(sentence, "an x of 0", toTheEdge(-3, 0, -2, 0) + "sign(0) -> a; balloonOf(0, 9) -> 0; pass(1) -> 1; sign(0) -> l;");
        holds(sentence, "an x that is too small", toTheEdge(-3, 0, -3, 0) + "sign(0) -> x; balloonOf(0, 9) -> -1; account(17) -> 2;");
        holds(sentence, "an x of 39", toTheEdge(3, 0, 1, 0) + "sign(0) -> a; balloonOf(0, 9) -> 39; pass(1) -> 1; sign(0) -> l;");
        holds(sentence, "an x that is too large", toTheEdge(3, 0, 2, 0) + "sign(0) -> x; balloonOf(0, 9) -> 40; account(17) -> 2;");
        holds(sentence, "a y of 0", toTheEdge(0, -3, 0, -2) + "sign(0) -> a; balloonOf(0, 10) -> 0; pass(1) -> 1; sign(0) -> l;");
        holds(sentence, "a y that is too small", toTheEdge(0, -3, 0, -3) + "sign(0) -> x; balloonOf(0, 10) -> -1; account(17) -> 2;");
        holds(sentence, "a y of 39", toTheEdge(0, 3, 0, 1) + "sign(0) -> a; balloonOf(0, 10) -> 39; pass(1) -> 1; sign(0) -> l;");
        holds(sentence, "a y that is too large", toTheEdge(0, 3, 0, 2) + "sign(0) -> x; balloonOf(0, 10) -> 40; account(17) -> 2;");
    }

    /** Six hours with one wind and then an hour with another one, after which a balloon would come down. */
    private static String toTheEdge(int x, int y, int lastX, int lastY) {
        return "wind(0, " + x + ", " + y + "); wind(1, " + x + ", " + y + ");" + TO_THE_EDGE + "wind(0, " + lastX + ", " + lastY
                + "); pass(1) -> 0;";
    }

    private static void landings() {
        String sentence = "A balloon that comes down within the ring is lost, too; else it has landed.";
        holds(sentence, "its distance is the ring", """
                ring(6); wind(0, 3, 0); balloon(10); fill(0, 3); launch(0); pass(3) -> 0; balloonOf(0, 9) -> 26; sign(0) -> x;
                account(7) -> 1; account(6) -> 0;""");
        holds(sentence, "its distance is one more", """
                ring(5); wind(0, 3, 0); balloon(10); fill(0, 3); launch(0); pass(3) -> 1; balloonOf(0, 9) -> 26;
                sign(0) -> l; account(7) -> 0; account(6) -> 1;""");
        holds(sentence, "the largest ring and the y", """
                ring(15); wind(0, 0, -3); wind(1, 0, -3); balloon(10); fill(0, 6); launch(0) -> 5; pass(6) -> 0;
                balloonOf(0, 10) -> 5; sign(0) -> x; undo(); pass(5) -> 0; wind(0, 0, 0); ring(14); pass(1) -> 1;
                sign(0) -> l;""");
        sentence = "The letters of a balloon that has landed are delivered, those of one that is lost are lost.";
        holds(sentence, "landed", """
                letter(1, 0); letter(2, 0); letter(1, 0); balloon(10); load(0, 0); load(1, 0); fill(0, 4); wind(0, 3, 0);
                launch(0) -> 2; pass(3) -> 1; letterOf(0, 2) -> 2; letterOf(1, 2) -> 2; letterOf(2, 2) -> 0;""");
        holds(sentence, "lost within the ring", """
                letter(1, 0); letter(2, 0); letter(1, 0); balloon(10); load(0, 0); load(1, 0); fill(0, 4); launch(0) -> 2;
                pass(3) -> 0; letterOf(0, 2) -> 3; letterOf(1, 2) -> 3; letterOf(2, 2) -> 0;""");
        holds(sentence, "lost off the map", """
                letter(1, 0); wind(0, 3, 0); wind(1, 3, 0); wind(2, 3, 0); balloon(10); load(0, 0); fill(0, 10); launch(0);
                pass(7); sign(0) -> x; letterOf(0, 2) -> 3;""");
        holds(sentence, "there are none", "wind(0, 3, 0); balloon(10); fill(0, 3); launch(0); pass(3) -> 1; account(11) -> 0;");
    }

    private static void heightsThatStay() {
        String sentence = "The height of a balloon that is aloft stays as it was in its latest hour, whatever is let go, and is 0"
                + " ahead of the first one; that of one that is not aloft is 0.";
        holds(sentence, "ballast is let go", """
                balloon(60); ballast(0, 50); fill(0, 59); launch(0) -> 3; pass(1); balloonOf(0, 8) -> 0; drop(0, 50) -> 0;
                balloonOf(0, 6) -> 50; balloonOf(0, 8) -> 0; pass(1); balloonOf(0, 8) -> 5;""");
        holds(sentence, "ballast is let go that was little", """
                balloon(60); ballast(0, 2); fill(0, 19); launch(0) -> 11; pass(1); balloonOf(0, 6) -> 10;
                balloonOf(0, 8) -> 2; drop(0, 2); balloonOf(0, 6) -> 12; balloonOf(0, 8) -> 2;""");
        holds(sentence, "ahead of the first hour", """
                balloon(60); fill(0, 60); ballast(0, 5); launch(0) -> 49; balloonOf(0, 8) -> 0; drop(0, 5);
                balloonOf(0, 8) -> 0; pass(1); balloonOf(0, 8) -> 5;""");
        holds(sentence, "in the town", "balloon(60); fill(0, 60); balloonOf(0, 6) -> 54; pass(1); balloonOf(0, 8) -> 0;");
        String heavy = """
                wind(1, 3, 0); balloon(99); fill(0, 99); ballast(0, 50); courier(0, 12); courier(0, 12); letter(9, 0);
                letter(9, 0); load(0, 0); load(1, 0) -> 90; launch(0) -> 9; pass(1); balloonOf(0, 6) -> 4;
                balloonOf(0, 8) -> 1;""";
        holds(sentence, "landed from a height of more than 0", heavy + "ring(1); pass(1) -> 1; sign(0) -> l; balloonOf(0, 8) -> 0;");
        holds(sentence, "lost within the ring from a height of more than 0", heavy + "pass(1) -> 0; sign(0) -> x; balloonOf(0, 8) -> 0;");
        holds(sentence, "lost off the map from a height of more than 0", """
                wind(5, 3, 0); balloon(99); fill(0, 99); launch(0); pass(6); balloonOf(0, 8) -> 5; sign(0) -> a; pass(1);
                sign(0) -> x; balloonOf(0, 8) -> 0;""");
    }

    private static void words() {
        String sentence = "When a balloon has landed that has a courier, word of it comes at the end of the hour that is as many"
                + " hours later as a fifth of the distance of its place from the town, rounded up.";
        holds(sentence, "a distance of 5", """
                ring(1); wind(0, 3, 0); balloon(10); courier(0, 5); fill(0, 8); launch(0) -> 2; pass(1); wind(0, 2, 0);
                pass(2) -> 1; meanDistance() -> 5.0; account(0) -> 3; word(0) -> 3;""");
        holds(sentence, "a distance of 6", """
                ring(1); wind(0, 0, 3); balloon(10); courier(0, 5); fill(0, 8); launch(0) -> 2; pass(3) -> 1;
                meanDistance() -> 6.0; word(0) -> 4;""");
        holds(sentence, "distances of 1 and 10", """
                ring(1); wind(0, 2, 0); balloon(10); courier(0, 5); fill(0, 7); launch(0) -> 1; pass(2) -> 1;
                meanDistance() -> 2.0; word(0) -> 2; wind(0, -3, 0); balloon(10); courier(1, 5); fill(1, 10); launch(1) -> 4;
                pass(3); wind(0, -1, 0); pass(2) -> 1; balloonOf(1, 9) -> 10; word(1) -> 8;""");
        holds(sentence, "a distance of 11", """
                wind(0, -3, 0); balloon(10); courier(0, 5); fill(0, 10); launch(0) -> 4; pass(3); wind(0, -2, 0);
                pass(2) -> 1; balloonOf(0, 9) -> 9; word(0) -> 7;""");
        holds(sentence, "a distance of 20", """
                wind(0, -3, 0); wind(1, -3, 0); balloon(20); courier(0, 5); fill(0, 14); launch(0) -> 7; pass(6);
                wind(0, -2, 0); pass(2) -> 1; balloonOf(0, 9) -> 0; word(0) -> 11;""");
        holds(sentence, "it has no courier", """
                wind(0, 3, 0); balloon(10); fill(0, 3); launch(0); pass(3) -> 1; word(0) -> throws NoSuchElementException;
                pass(9); account(13) -> 0;""");
        holds(sentence, "it is lost with a courier", """
                balloon(10); courier(0, 5); fill(0, 8); launch(0); pass(3) -> 0; sign(0) -> x;
                word(0) -> throws NoSuchElementException; pass(9); account(13) -> 0;""");
        holds(sentence, "it is lost off the map with a courier", """
                wind(0, 0, 3); wind(1, 0, 3); wind(2, 0, 3); balloon(20); courier(0, 5); fill(0, 18); launch(0); pass(9);
                balloonOf(0, 10) -> 41; word(0) -> throws NoSuchElementException; pass(9); account(13) -> 0;""");
    }

    private static void wordsTold() {
        String landed = "wind(0, 3, 0); balloon(10); courier(0, 5); fill(0, 8); launch(0) -> 2; pass(3) -> 1; word(0) -> 4;";
        String sentence = "A word that has come is told.";
        holds(sentence, "in the hour at whose end it comes", landed + "pass(1); account(0) -> 4; account(13) -> 0;");
        holds(sentence, "when this hour has gone by", landed + "pass(2); account(0) -> 5; account(13) -> 1; pass(48); account(13) -> 1;");
        holds(sentence, "none", "account(13) -> 0; pass(48); account(13) -> 0;");
        sentence = "Hours are numbered from 0.";
        holds(sentence, "the first one", "account(0) -> 0; pass(1); account(0) -> 1;");
        holds(sentence, "a word of the first hours", """
                ring(1); wind(0, 3, 0); balloon(10); courier(0, 5); fill(0, 7); launch(0) -> 1; pass(2) -> 1; word(0) -> 2;
                account(0) -> 2; account(13) -> 0; pass(1); account(13) -> 1;""");
    }

    private static void ballast() {
        String sentence = "Ballast is laid into balloons in the town, and let go from balloons that are aloft.";
        String each = "wind(0, 3, 0); balloon(10); ballast(0, 1); balloon(10); ballast(1, 1); fill(1, 10); balloon(10); ballast(2, 1);"
                + "fill(2, 5); balloon(10); ballast(3, 1); fill(3, 2); launch(1) -> 8; launch(2) -> 3; launch(3) -> 0; pass(4) -> 1;"
                + "sign(0) -> t; sign(1) -> a; sign(2) -> l; sign(3) -> x;";
        holds(sentence, "laid into one that is not in the town", each + """
                ballast(0, 1) -> 2; ballast(1, 1) -> throws UnsupportedOperationException;
                ballast(2, 1) -> throws UnsupportedOperationException;
                ballast(3, 1) -> throws UnsupportedOperationException;""");
        holds(sentence, "let go from one that is not aloft", each + """
                drop(0, 1) -> throws UnsupportedOperationException; drop(1, 1) -> 0;
                drop(2, 1) -> throws UnsupportedOperationException; drop(3, 1) -> throws UnsupportedOperationException;""");
        sentence = "All ballast that was laid is let go, landed, lost, or in balloons that are in the town or aloft.";
        holds(sentence, "some of each", each + """
                isWell() -> true; account(14) -> 4; account(15) -> 0; account(16) -> 1; account(17) -> 1; drop(1, 1);
                account(14) -> 4; account(15) -> 1; account(16) -> 1; account(17) -> 1; isWell() -> true;""");
        holds(sentence, "none", "isWell() -> true; account(14) -> 0; account(15) -> 0; account(16) -> 0; account(17) -> 0;");
        holds(sentence, "lost off the map", """
                wind(5, 3, 0); balloon(99); fill(0, 99); ballast(0, 7); launch(0); pass(9); balloonOf(0, 9) -> 41;
                account(14) -> 7; account(16) -> 0; account(17) -> 7; isWell() -> true;""");
        holds(sentence, "in full balloons", """
                6 * balloon(10); ballast(0, 50); ballast(1, 50); ballast(2, 50); ballast(3, 50); ballast(4, 50);
                ballast(5, 50); account(14) -> 300; account(15) -> 0; isWell() -> true;""");
    }
}
