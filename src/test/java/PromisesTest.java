/** The promises of the document, one after the other: what is ordinary, the edges and wrong inputs. */
public final class PromisesTest {
    private static final String ILLEGAL = "throws IllegalArgumentException";
    private static final String NO_INDEX = "throws IndexOutOfBoundsException";
    private static final String REFUSED = "throws UnsupportedOperationException";
    private static final String NO_ELEMENT = "throws NoSuchElementException";
    private static final String NO_STATE = "throws IllegalStateException";
    private static final String NO_NUMBER = "throws ArithmeticException";

    /** A balloon that weighs 6 and bears 4: it drifts by 3 in each of four hours and lands in the fifth one, at 32, 20. */
    private static final String FLIGHT = "wind(0, 3, 0); balloon(10); fill(0, 10); courier(0, 5); launch(0) -> 4;";

    public static void main(String[] args) {
        examples();
        town();
        adding();
        filling();
        ballasting();
        couriers();
        loading();
        loadingAll();
        launching();
        dropping();
        passing();
        flying();
        numbersOfBalloons();
        numbersOfLetters();
        weighingAgain();
        waiting();
        words();
        signs();
        within();
        ahead();
        bestDrop();
        input();
        reading();
        readingRefused();
        errorPositions();
        refusals();
        accounts();
        fullTown();
        ballastAddsUp();
        means();
        undoing();
        undoingEachChange();
        undoingOne();
        snapshots();
        Script.end();
    }

    private static void run(String title, String script) {
        Script.run(title, script);
    }

    private static void examples() {
        run("A balloon with letters is launched", """
                wind(0, 2, 0) -> 0; wind(1, 3, 0) -> 0; balloon(50) -> 0; fill(0, 50) -> 50; ballast(0, 20) -> 20;
                courier(0, 8) -> 1; letter(9, 1) -> 0; letter(4, 2) -> 1; waiting(0) -> 1; loadAll(0) -> 2;
                balloonOf(0, 5) -> 38; launch(0) -> 12; endsIn(0) -> 5; ends(0, 0) -> 27; bestDrop(0) -> 19;
                isWell() -> true;""");
        run("What is refused in the town", """
                balloon(20) -> 0; launch(0) -> throws UnsupportedOperationException; refusal(false) -> 9;
                refusal(true) -> 2; fill(0, 21) -> throws UnsupportedOperationException; refusal(false) -> 5;
                fill(0, 10) -> 10; ballast(0, 50) -> 50; ballast(0, 1) -> throws UnsupportedOperationException;
                refusal(true) -> 0; drop(0, 5) -> throws UnsupportedOperationException; refusal(false) -> 3;
                sign(0) -> t;""");
        run("Exceptions without balloons", """
                fill(0, 1) -> throws IndexOutOfBoundsException; ring(0) -> throws IllegalArgumentException;
                refusal(false) -> throws NoSuchElementException; waiting(0) -> throws NoSuchElementException;
                read() -> throws IllegalArgumentException; errorPosition() -> 0;
                meanDistance() -> throws ArithmeticException; undo() -> throws IllegalStateException;
                restore() -> throws IllegalStateException;""");
    }

    private static void town() {
        run("1: a new object", """
                account(0) -> 0; account(1) -> 5; account(2) -> 100; account(3) -> 0; account(8) -> 0; account(14) -> 0;
                account(15) -> 0; account(16) -> 0; account(17) -> 0; account(18) -> 0; account(19) -> 0;
                account(20) -> 0; wind(0, 0, 0) -> 0; wind(1, 0, 0) -> 0; wind(2, 0, 0) -> 0; wind(3, 0, 0) -> 0;
                wind(4, 0, 0) -> 0; wind(5, 0, 0) -> 0; isWell() -> true; save() -> 0;""");
        run("2: ring", "ring(1) -> 5; ring(15) -> 1; account(1) -> 15; ring(0) ->" + ILLEGAL + "; ring(16) ->" + ILLEGAL
                + "; ring(-1) ->" + ILLEGAL + "; ring(MIN) ->" + ILLEGAL + "; ring(MAX) ->" + ILLEGAL
                + "; ring(7) -> 15; account(20) -> 3;");
        run("3: wind", "wind(0, 3, -3) -> 0; wind(0, -1, 2) -> 27; wind(0, 0, 0) -> -8; wind(5, -3, -3) -> 0;"
                + "wind(5, 3, 3) -> -33; wind(6, 9, 9) ->" + NO_INDEX + "; wind(-1, 0, 0) ->" + NO_INDEX
                + "; wind(MAX, 0, 0) ->" + NO_INDEX + "; wind(MIN, 0, 0) ->" + NO_INDEX + "; wind(5, 4, 0) ->" + ILLEGAL
                + "; wind(5, -4, 0) ->" + ILLEGAL + "; wind(5, 0, 4) ->" + ILLEGAL + "; wind(5, 0, -4) ->" + ILLEGAL
                + "; wind(5, 0, MIN) ->" + ILLEGAL + "; wind(5, 0, 1) -> 33; wind(4, 1, 1) -> 0; account(20) -> 7;");
        run("4: gas", "gas(1) -> 101; gas(999) -> 1100; gas(0) ->" + ILLEGAL + "; gas(1000) ->" + ILLEGAL
                + "; gas(-1) ->" + ILLEGAL + "; gas(MAX) ->" + ILLEGAL + "; account(2) -> 1100; gas(999) -> 2099;"
                + "gas(999); gas(999); gas(999); gas(999); gas(999); gas(999); gas(999) -> 9092; gas(906) -> 9998;"
                + "gas(1) -> 9999; gas(1) -> 9999; gas(999) -> 9999; account(2) -> 9999; account(18) -> 0;");
    }

    private static void adding() {
        run("5: balloon", "balloon(9) ->" + ILLEGAL + "; balloon(100) ->" + ILLEGAL + "; balloon(MIN) ->" + ILLEGAL
                + "; balloon(10) -> 0; balloon(99) -> 1; balloon(50) -> 2; balloon(51) -> 3; balloon(52) -> 4;"
                + "account(3) -> 5; balloon(53) -> 5; balloon(9) ->" + ILLEGAL + "; refusal(false) ->" + NO_ELEMENT
                + "; balloon(10) ->" + REFUSED + "; refusal(false) -> 1; refusal(true) -> 6; account(3) -> 6;"
                + "balloonOf(0, 0) -> 10; balloonOf(1, 0) -> 99; balloonOf(5, 0) -> 53; account(20) -> 6;");
        run("5: a new balloon is empty and in the town", """
                balloon(41) -> 0; balloonOf(0, 0) -> 41; balloonOf(0, 1) -> 0; balloonOf(0, 2) -> 0;
                balloonOf(0, 3) -> 0; balloonOf(0, 4) -> 0; balloonOf(0, 5) -> 5; balloonOf(0, 6) -> -5;
                balloonOf(0, 7) -> 0; balloonOf(0, 8) -> 0; balloonOf(0, 9) -> 20; balloonOf(0, 10) -> 20;
                balloonOf(0, 11) -> 0;""");
        StringBuilder letters = new StringBuilder();
        for (int i = 0; i < 24; i++) {
            letters.append("letter(").append(i % 9 + 1).append(", ").append(i % 3).append(") -> ").append(i).append(";");
        }
        run("9: letter", "letter(0, 0) ->" + ILLEGAL + "; letter(10, 0) ->" + ILLEGAL + "; letter(1, -1) ->" + ILLEGAL
                + "; letter(1, 3) ->" + ILLEGAL + "; letter(MIN, MAX) ->" + ILLEGAL + ";" + letters
                + "letter(1, 3) ->" + ILLEGAL + "; refusal(true) ->" + NO_ELEMENT + "; letter(9, 2) ->" + REFUSED
                + "; refusal(false) -> 1; refusal(true) -> 24; account(8) -> 24; account(9) -> 24;"
                + "letterOf(8, 0) -> 9; letterOf(23, 0) -> 6; letterOf(23, 1) -> 2; letterOf(23, 2) -> 0;");
    }

    private static void filling() {
        run("6: fill", "balloon(99); fill(-1, 1) ->" + NO_INDEX + "; fill(1, 0) ->" + NO_INDEX + "; fill(0, 0) ->" + ILLEGAL
                + "; fill(0, 100) ->" + ILLEGAL + "; fill(0, MIN) ->" + ILLEGAL + "; fill(MIN, 1) ->" + NO_INDEX
                + "; fill(0, 1) -> 1; fill(0, 59) -> 60; account(2) -> 40; fill(0, 41) ->" + REFUSED
                + "; refusal(false) -> 4; refusal(true) -> 40; fill(0, 40) ->" + REFUSED
                + "; refusal(false) -> 5; refusal(true) -> 39; balloonOf(0, 1) -> 60; fill(0, 39) -> 99; account(2) -> 1;"
                + "fill(0, 1) ->" + REFUSED + "; refusal(false) -> 5; refusal(true) -> 0; fill(0, 2) ->" + REFUSED
                + "; refusal(false) -> 4; refusal(true) -> 1; launch(0) -> 89; fill(0, 100) ->" + ILLEGAL
                + "; fill(0, 99) ->" + REFUSED + "; refusal(false) -> 2; refusal(true) -> 0; account(2) -> 1;");
        run("6: all the gas", "balloon(99); fill(0, 99) -> 99; balloon(20); fill(1, 1) -> 1; account(2) -> 0; fill(1, 1) ->"
                + REFUSED + "; refusal(false) -> 4; refusal(true) -> 0; gas(5) -> 5; fill(1, 5) -> 6;");
    }

    private static void ballasting() {
        run("7: ballast", "balloon(60); ballast(1, 0) ->" + NO_INDEX + "; ballast(-1, 1) ->" + NO_INDEX + "; ballast(0, 0) ->"
                + ILLEGAL + "; ballast(0, 51) ->" + ILLEGAL + "; ballast(0, MIN) ->" + ILLEGAL
                + "; ballast(0, 1) -> 1; ballast(0, 48) -> 49; ballast(0, 2) ->" + REFUSED
                + "; refusal(false) -> 6; refusal(true) -> 1; balloonOf(0, 2) -> 49; ballast(0, 1) -> 50;"
                + "ballast(0, 50) ->" + REFUSED + "; refusal(true) -> 0; balloonOf(0, 5) -> 56; account(14) -> 50;"
                + "fill(0, 60); launch(0) -> 4; ballast(0, 50) ->" + REFUSED + "; refusal(false) -> 2; refusal(true) -> 0;");
        run("7: at once", "balloon(60); ballast(0, 50) -> 50; account(14) -> 50; balloon(10); ballast(1, 50) -> 50;"
                + "account(14) -> 100;");
    }

    private static void couriers() {
        run("8: courier", "balloon(20); balloon(10); courier(2, 0) ->" + NO_INDEX + "; courier(-1, 5) ->" + NO_INDEX
                + "; courier(1, 4) ->" + ILLEGAL + "; courier(1, 13) ->" + ILLEGAL + "; courier(1, MAX) ->" + ILLEGAL
                + "; courier(1, 5) -> 1; balloonOf(1, 5) -> 6; courier(1, 12) -> 2; balloonOf(1, 5) -> 18;"
                + "courier(1, 13) ->" + ILLEGAL + "; courier(1, 5) ->" + REFUSED + "; refusal(false) -> 1; refusal(true) -> 2;"
                + "balloonOf(1, 3) -> 2; balloonOf(0, 3) -> 0;");
        run("8: not in the town is told first", "balloon(50); balloon(20); courier(1, 5) -> 1; courier(1, 6) -> 2;"
                + "fill(1, 20); launch(1) -> 7; courier(1, 5) ->" + REFUSED + "; refusal(false) -> 2; refusal(true) -> 1;");
    }

    private static void loading() {
        run("10: load", "load(0, 0) ->" + NO_INDEX + "; letter(9, 0); letter(1, 2); letter(2, 1); balloon(10); balloon(20);"
                + "load(0, 2) ->" + NO_INDEX + "; load(3, 0) ->" + NO_INDEX + "; load(-1, 0) ->" + NO_INDEX
                + "; load(0, -1) ->" + NO_INDEX + "; load(MAX, MIN) ->" + NO_INDEX
                + "; load(0, 0) -> 4; load(1, 0) -> 5; balloonOf(0, 6) -> -5; balloonOf(0, 4) -> 2; load(0, 0) ->" + REFUSED
                + "; refusal(false) -> 8; refusal(true) -> 0; load(1, 1) ->" + REFUSED
                + "; refusal(false) -> 8; refusal(true) -> 1; fill(1, 20); launch(1) -> 18; load(2, 1) ->" + REFUSED
                + "; refusal(false) -> 2; refusal(true) -> 1; load(0, 1) ->" + REFUSED
                + "; refusal(false) -> 8; refusal(true) -> 0; load(2, 0) -> 5; load(2, 2) ->" + NO_INDEX);
    }

    private static void loadingAll() {
        run("11: loadAll passes over what does not fit", """
                balloon(30); fill(0, 10); letter(9, 0); letter(9, 1); letter(8, 2); letter(5, 2); letter(1, 0);
                letter(3, 0); loadAll(0) -> 4; letterOf(0, 2) -> 0; letterOf(1, 2) -> 0; letterOf(2, 2) -> 1;
                letterOf(3, 2) -> 1; letterOf(4, 2) -> 1; letterOf(5, 2) -> 1; balloonOf(0, 6) -> 1; letter(9, 2);
                loadAll(0) -> 0; letter(4, 0); loadAll(0) -> 1; balloonOf(0, 4) -> 5; balloonOf(0, 5) -> 10;
                balloonOf(0, 6) -> 0;""");
        run("11: a rank ahead of a number", "balloon(10); fill(0, 4); letter(9, 0); letter(9, 1); letter(9, 2); loadAll(0) -> 1;"
                + "letterOf(2, 3) -> 0; letterOf(1, 3) -> -1; letterOf(0, 3) -> -1;");
        run("11: gas that bears too little", "balloon(20); letter(1, 0); letter(3, 0); fill(0, 1); loadAll(0) -> 0; fill(0, 1);"
                + "loadAll(0) -> 0; fill(0, 1); loadAll(0) -> 1; letterOf(0, 3) -> 0; load(1, 0) -> 4; letter(1, 2);"
                + "loadAll(0) -> 0;");
        run("11: refused", "loadAll(0) ->" + NO_INDEX + "; balloon(10); loadAll(-1) ->" + NO_INDEX + "; loadAll(1) ->" + NO_INDEX
                + "; loadAll(0) -> 0; account(20) -> 2; balloon(10); fill(1, 1); launch(1) -> 0; loadAll(1) ->" + REFUSED
                + "; refusal(false) -> 2; refusal(true) -> 1;");
    }

    private static void launching() {
        run("12: launch", "launch(0) ->" + NO_INDEX + "; balloon(31); launch(-1) ->" + NO_INDEX + "; launch(1) ->" + NO_INDEX
                + "; launch(0) ->" + REFUSED + "; refusal(false) -> 9; refusal(true) -> 4; fill(0, 3); launch(0) ->" + REFUSED
                + "; refusal(true) -> 1; sign(0) -> t; fill(0, 1); launch(0) -> 0; sign(0) -> a; balloonOf(0, 7) -> 1;"
                + "balloonOf(0, 8) -> 0; balloonOf(0, 9) -> 20; balloonOf(0, 10) -> 20; launch(0) ->" + REFUSED
                + "; refusal(false) -> 2; refusal(true) -> 0;");
    }

    private static void dropping() {
        run("13: drop", "drop(0, 0) ->" + NO_INDEX + "; balloon(40); ballast(0, 20); drop(-1, 1) ->" + NO_INDEX
                + "; drop(0, 0) ->" + ILLEGAL + "; drop(0, 51) ->" + ILLEGAL + "; drop(0, 50) ->" + REFUSED
                + "; refusal(false) -> 3; refusal(true) -> 0; fill(0, 40); launch(0) -> 16; drop(0, 21) ->" + REFUSED
                + "; refusal(false) -> 7; refusal(true) -> 20; drop(0, 1) -> 19; balloonOf(0, 6) -> 17; pass(1) -> 0;"
                + "balloonOf(0, 8) -> 3; drop(0, 19) -> 0; balloonOf(0, 8) -> 3; balloonOf(0, 6) -> 34; drop(0, 1) ->" + REFUSED
                + "; refusal(true) -> 0; account(15) -> 20; account(14) -> 20; drop(0, MAX) ->" + ILLEGAL
                + "; pass(1) -> 0; balloonOf(0, 8) -> 5;");
        run("13: not aloft any more", "balloon(20); balloon(10); ballast(1, 1); fill(1, 2); launch(1) -> 0; pass(1) -> 0;"
                + "sign(1) -> x; drop(1, 1) ->" + REFUSED + "; refusal(false) -> 3; refusal(true) -> 1;");
    }

    private static void passing() {
        run("14: pass", "pass(0) ->" + ILLEGAL + "; pass(49) ->" + ILLEGAL + "; pass(-1) ->" + ILLEGAL + "; pass(MAX) ->" + ILLEGAL
                + "; account(0) -> 0; pass(48) -> 0; account(0) -> 48; pass(1) -> 0; account(0) -> 49;");
        run("14: balloons that land", FLIGHT + "balloon(10); fill(1, 10); ballast(1, 6); launch(1) -> 3; balloon(10);"
                + "balloon(10); fill(3, 10); launch(3) -> 9; pass(3) -> 0; pass(1) -> 1; sign(1) -> l; pass(1) -> 1;"
                + "sign(0) -> l; account(6) -> 2; pass(48) -> 1; account(6) -> 3; account(4) -> 1; pass(48) -> 0;");
        run("14: several in one call", FLIGHT + "balloon(10); fill(1, 10); ballast(1, 6); launch(1) -> 3; pass(5) -> 2;");
    }

    private static void flying() {
        run("Flights: hour by hour", FLIGHT + """
                pass(1); balloonOf(0, 1) -> 9; balloonOf(0, 6) -> 3; balloonOf(0, 8) -> 0; balloonOf(0, 9) -> 23;
                balloonOf(0, 10) -> 20; balloonOf(0, 11) -> 1; pass(3); balloonOf(0, 9) -> 32; balloonOf(0, 6) -> 0;
                sign(0) -> a; pass(1) -> 1; sign(0) -> l; balloonOf(0, 9) -> 32; balloonOf(0, 1) -> 5;
                balloonOf(0, 6) -> -1; balloonOf(0, 11) -> 5; pass(3); balloonOf(0, 11) -> 5; balloonOf(0, 1) -> 5;""");
        run("Flights: heights", """
                wind(5, 0, -1); wind(4, -1, 0); wind(1, 1, 2); balloon(99); fill(0, 40); ballast(0, 7); launch(0) -> 23;
                pass(1); balloonOf(0, 1) -> 38; balloonOf(0, 8) -> 5; balloonOf(0, 10) -> 19; pass(1);
                balloonOf(0, 6) -> 19; balloonOf(0, 8) -> 4; balloonOf(0, 9) -> 19; pass(2); balloonOf(0, 6) -> 15;
                balloonOf(0, 8) -> 3; balloonOf(0, 9) -> 18;""");
        run("Flights: the most height", "balloon(99); fill(0, 99); launch(0) -> 89; pass(1); balloonOf(0, 1) -> 94;"
                + "balloonOf(0, 8) -> 5; account(18) -> 5; pass(4); balloonOf(0, 1) -> 75; pass(5); balloonOf(0, 1) -> 56;");
        run("Flights: the edge of the map", """
                wind(0, 1, 0); wind(1, 1, 0); wind(2, 1, 0); wind(3, 1, 0); wind(4, 1, 0); wind(5, 1, 0); balloon(99);
                fill(0, 99); ballast(0, 3); launch(0) -> 86; ends(0, 0) -> 40; ends(0, 2) -> 3; endsIn(0) -> 20; pass(19);
                sign(0) -> a; balloonOf(0, 9) -> 39; balloonOf(0, 8) -> 4; pass(1) -> 0; sign(0) -> x; balloonOf(0, 9) -> 40;
                balloonOf(0, 8) -> 0; balloonOf(0, 11) -> 20; balloonOf(0, 1) -> 30; account(17) -> 3; account(16) -> 0;
                account(18) -> 69;""");
        run("Flights: the beginning of the map", """
                wind(0, 0, -2); wind(1, 0, -2); wind(2, 0, -2); wind(3, 0, -2); wind(4, 0, -2); wind(5, 0, -2); balloon(99);
                fill(0, 99); launch(0); pass(10); sign(0) -> a; balloonOf(0, 10) -> 0; ends(0, 1) -> -2; pass(1) -> 0;
                sign(0) -> x; balloonOf(0, 10) -> -2; account(7) -> 1; account(6) -> 0;""");
        run("Flights: within the ring", FLIGHT + "ring(12); ends(0, 2) -> 3; pass(5) -> 0; sign(0) -> x; account(7) -> 1;"
                + "balloonOf(0, 9) -> 32; balloonOf(0, 7) -> 3; ring(1); sign(0) -> x;");
        run("Flights: beyond the ring", FLIGHT + "ring(11); ends(0, 2) -> 2; pass(5) -> 1; ring(15); sign(0) -> l;");
        run("Flights: without gas to leak", "balloon(10); fill(0, 1); launch(0) -> 0; endsIn(0) -> 1; pass(1) -> 0; sign(0) -> x;"
                + "balloonOf(0, 1) -> 0; account(18) -> 1;");
        run("Flights: one in the town does not leak", "balloon(50); fill(0, 50); pass(48); balloonOf(0, 1) -> 50; account(18) -> 0;"
                + "balloonOf(0, 11) -> 0;");
    }

    private static void numbersOfBalloons() {
        run("15: balloonOf", "balloonOf(0, 0) ->" + NO_INDEX + "; balloon(55); balloonOf(1, 12) ->" + NO_INDEX
                + "; balloonOf(-1, 0) ->" + NO_INDEX + "; balloonOf(0, 12) ->" + ILLEGAL + "; balloonOf(0, -1) ->" + ILLEGAL
                + "; balloonOf(0, MIN) ->" + ILLEGAL + "; letter(7, 1); letter(6, 0); load(0, 0); load(1, 0); courier(0, 8);"
                + "ballast(0, 4); fill(0, 30); balloonOf(0, 0) -> 55; balloonOf(0, 1) -> 30; balloonOf(0, 2) -> 4;"
                + "balloonOf(0, 3) -> 1; balloonOf(0, 4) -> 2; balloonOf(0, 5) -> 23; balloonOf(0, 6) -> 7;"
                + "balloonOf(0, 7) -> 0; launch(0) -> 7; balloonOf(0, 7) -> 1;");
        run("15: what stays", FLIGHT + "undo(); letter(3, 1); ballast(0, 1); load(0, 0) -> 8; launch(0) -> 2; wind(0, 3, -3);"
                + "pass(48) -> 1; balloonOf(0, 1) -> 7; balloonOf(0, 2) -> 1; balloonOf(0, 3) -> 1; balloonOf(0, 4) -> 1;"
                + "balloonOf(0, 5) -> 8; balloonOf(0, 6) -> -1; balloonOf(0, 7) -> 2; balloonOf(0, 9) -> 26;"
                + "balloonOf(0, 10) -> 14; balloonOf(0, 11) -> 3; account(16) -> 1;");
    }

    private static void numbersOfLetters() {
        run("16: letterOf", "letterOf(0, 0) ->" + NO_INDEX + "; letter(7, 2); letterOf(1, 4) ->" + NO_INDEX + "; letterOf(-1, 0) ->"
                + NO_INDEX + "; letterOf(0, 4) ->" + ILLEGAL + "; letterOf(0, -1) ->" + ILLEGAL + "; letterOf(0, MAX) ->" + ILLEGAL
                + "; letterOf(0, 0) -> 7; letterOf(0, 1) -> 2; letterOf(0, 2) -> 0; letterOf(0, 3) -> -1; balloon(20);"
                + "balloon(20); load(0, 1); letterOf(0, 2) -> 1; letterOf(0, 3) -> 1; fill(1, 10); launch(1) -> 5;"
                + "letterOf(0, 2) -> 1; pass(48) -> 0; letterOf(0, 2) -> 3; letterOf(0, 3) -> 1; letterOf(0, 0) -> 7;");
        run("16: delivered", "letter(3, 0); letter(1, 1);" + FLIGHT + "undo(); load(0, 0); launch(0) -> 3; pass(48) -> 1;"
                + "letterOf(0, 2) -> 2; letterOf(0, 3) -> 0; letterOf(1, 2) -> 0; account(11) -> 1; account(9) -> 1;");
    }

    private static void weighingAgain() {
        run("17: weightAgain", "weightAgain(0) ->" + NO_INDEX + "; balloon(41); weightAgain(-1) ->" + NO_INDEX + "; weightAgain(1) ->"
                + NO_INDEX + "; weightAgain(0) -> 5; letter(2, 0); letter(2, 0); letter(2, 0); letter(1, 0); letter(9, 0);"
                + "load(0, 0); weightAgain(0) -> 6; load(1, 0); weightAgain(0) -> 7; load(2, 0); weightAgain(0) -> 7; load(3, 0);"
                + "weightAgain(0) -> 8; ballast(0, 11); weightAgain(0) -> 19; courier(0, 9); weightAgain(0) -> 28; balloon(40);"
                + "weightAgain(1) -> 4; load(4, 1); weightAgain(1) -> 7; weightAgain(0) -> 28; balloonOf(0, 5) -> 28;"
                + "fill(1, 40); launch(1) -> 33; pass(48); weightAgain(1) -> 7;");
    }

    private static void waiting() {
        run("18: waiting", "waiting(0) ->" + NO_ELEMENT + "; letter(1, 0); letter(1, 2); letter(1, 1); letter(1, 2); letter(1, 0);"
                + "waiting(0) -> 1; waiting(1) -> 3; waiting(2) -> 2; waiting(3) -> 0; waiting(4) -> 4; waiting(5) ->" + NO_ELEMENT
                + "; waiting(-1) ->" + NO_ELEMENT + "; waiting(MIN) ->" + NO_ELEMENT + "; waiting(MAX) ->" + NO_ELEMENT
                + "; balloon(10); load(3, 0); load(0, 0); waiting(0) -> 1; waiting(1) -> 2; waiting(2) -> 4; waiting(3) ->"
                + NO_ELEMENT);
    }

    private static void words() {
        run("19: word", "word(0) ->" + NO_INDEX + ";" + FLIGHT + "word(-1) ->" + NO_INDEX + "; word(1) ->" + NO_INDEX + "; word(0) ->"
                + NO_ELEMENT + "; pass(4); word(0) ->" + NO_ELEMENT + "; pass(1) -> 1; word(0) -> 7; account(13) -> 0; pass(2);"
                + "account(13) -> 0; pass(1); account(0) -> 8; account(13) -> 1; word(0) -> 7; pass(9); account(13) -> 1;");
        run("19: a fifth of the distance", "wind(0, 0, 3); balloon(10); courier(0, 6); fill(0, 10); pass(7); launch(0) -> 3;"
                + "pass(2); save(); wind(0, 0, 0); pass(2) -> 1; balloonOf(0, 10) -> 26; word(0) -> 12; restore();"
                + "wind(0, 0, -1); ring(4); pass(2) -> 1; balloonOf(0, 10) -> 25; word(0) -> 11;");
        run("19: without a courier", "wind(0, 3, 0); balloon(10); fill(0, 10); ballast(0, 5); launch(0) -> 4; pass(8) -> 1; word(0) ->"
                + NO_ELEMENT + "; pass(48); account(13) -> 0;");
        run("19: lost", FLIGHT + "ring(12); pass(8) -> 0; word(0) ->" + NO_ELEMENT + "; account(13) -> 0;");
        run("19: two couriers", "wind(0, -3, 0); balloon(20); fill(0, 20); courier(0, 5); courier(0, 10); launch(0) -> 3; pass(4) -> 1;"
                + "balloonOf(0, 9) -> 11; word(0) -> 5; pass(1); account(13) -> 0; pass(1); account(13) -> 1; pass(5);"
                + "account(13) -> 1;");
    }

    private static void signs() {
        run("20: sign", "sign(0) ->" + NO_INDEX + ";" + FLIGHT + "balloon(10); sign(-1) ->" + NO_INDEX + "; sign(2) ->" + NO_INDEX
                + "; sign(0) -> a; sign(1) -> t; pass(48) -> 1; sign(0) -> l; fill(1, 10); launch(1); wind(0, 0, 0); pass(48) -> 0;"
                + "sign(1) -> x;");
    }

    private static void within() {
        run("21: isWithin", "isWithin(20, 20) -> true; isWithin(25, 20) -> true; isWithin(26, 20) -> false;"
                + "isWithin(15, 15) -> true; isWithin(14, 20) -> false; isWithin(20, 25) -> true; isWithin(20, 26) -> false;"
                + "isWithin(20, 14) -> false; isWithin(0, 0) -> false; isWithin(39, 39) -> false; ring(15); isWithin(5, 35) -> true;"
                + "isWithin(4, 20) -> false; ring(1); isWithin(21, 21) -> true; isWithin(22, 21) -> false; isWithin(-1, 0) ->"
                + NO_INDEX + "; isWithin(0, -1) ->" + NO_INDEX + "; isWithin(40, 0) ->" + NO_INDEX + "; isWithin(0, 40) ->" + NO_INDEX
                + "; isWithin(MIN, 20) ->" + NO_INDEX + "; isWithin(20, MAX) ->" + NO_INDEX);
    }

    private static void ahead() {
        run("22: endsIn", "endsIn(0) ->" + NO_INDEX + "; balloon(10); endsIn(0) ->" + NO_ELEMENT + "; endsIn(1) ->" + NO_INDEX
                + "; endsIn(-1) ->" + NO_INDEX + "; fill(0, 10); launch(0); endsIn(0) -> 10; account(0) -> 0; sign(0) -> a; pass(1);"
                + "endsIn(0) -> 9; pass(8); endsIn(0) -> 1; pass(1); endsIn(0) ->" + NO_ELEMENT);
        run("22: far ahead", "balloon(90); balloon(99); fill(1, 99); launch(1); endsIn(1) -> 36; pass(35); sign(1) -> a; pass(1);"
                + "sign(1) -> x;");
        run("23: ends", "ends(0, 3) ->" + NO_INDEX + ";" + FLIGHT + "balloon(10); ends(-1, 0) ->" + NO_INDEX + "; ends(1, 3) ->" + ILLEGAL
                + "; ends(1, -1) ->" + ILLEGAL + "; ends(1, 0) ->" + NO_ELEMENT + "; ends(0, 3) ->" + ILLEGAL + "; ends(0, MIN) ->"
                + ILLEGAL + "; ends(0, 0) -> 32; ends(0, 1) -> 20; ends(0, 2) -> 2; pass(2); wind(0, 0, -3); ends(0, 0) -> 26;"
                + "ends(0, 1) -> 14; ends(0, 2) -> 2; wind(0, -3, 1); ends(0, 0) -> 20; ends(0, 1) -> 22; ends(0, 2) -> 3; pass(48);"
                + "ends(0, 0) ->" + NO_ELEMENT + "; balloonOf(0, 9) -> 20; balloonOf(0, 10) -> 22;");
        run("23: nothing is different", FLIGHT + "ends(0, 0); bestDrop(0); balloonOf(0, 9) -> 20; balloonOf(0, 11) -> 0;"
                + "balloonOf(0, 1) -> 10; account(18) -> 0; account(20) -> 5;");
    }

    private static void bestDrop() {
        run("24: of several the least", "bestDrop(0) ->" + NO_INDEX + "; wind(0, 3, 0); balloon(10); bestDrop(0) ->" + NO_ELEMENT
                + "; bestDrop(-1) ->" + NO_INDEX + "; bestDrop(1) ->" + NO_INDEX + "; fill(0, 10); ballast(0, 3); launch(0) -> 6;"
                + "bestDrop(0) -> 0; ring(11); bestDrop(0) -> 0; ring(12); bestDrop(0) ->" + NO_ELEMENT
                + "; ring(1); pass(48) -> 1; bestDrop(0) ->" + NO_ELEMENT);
        run("24: all of it", "wind(0, 0, 1); wind(1, 0, 1); wind(2, 0, 1); balloon(10); fill(0, 10); ballast(0, 4); launch(0) -> 5;"
                + "ends(0, 2) -> 3; bestDrop(0) -> 4; drop(0, 4); bestDrop(0) -> 0; ends(0, 1) -> 29;");
        run("24: not off the map", "wind(0, 3, 0); wind(1, 3, 0); balloon(20); fill(0, 10); ballast(0, 3); launch(0) -> 5;"
                + "ends(0, 0) -> 35; bestDrop(0) -> 1; drop(0, 1); ends(0, 0) -> 38; ends(0, 2) -> 2;");
    }

    private static void input() {
        run("25: append", "append \"u\" -> 1; append \"u0;\" -> 4; account(19) -> 4;"
                + "append \"12345678901234567890123456789012345678901234567890123456\" -> 60; append \"x\" ->" + NO_STATE
                + "; account(19) -> 60; read() ->" + ILLEGAL + "; errorPosition() -> 1; account(19) -> 0; append \"h1\" -> 2;"
                + "read() -> 1; append \"u\" -> 1; account(20) -> 1;");
    }

    private static void reading() {
        run("26: read", "balloon(30); letter(3, 0); append \"f0=20;b0+5;l0@0;w0:-1,3;w5:2,-2;u0;h1;d0-5\"; read() -> 8;"
                + "errorPosition() -> -1; account(19) -> 0; balloonOf(0, 1) -> 19; balloonOf(0, 2) -> 0; balloonOf(0, 4) -> 1;"
                + "sign(0) -> a; account(0) -> 1; wind(0, 0, 0) -> -7; wind(5, 0, 0) -> 18; balloonOf(0, 8) -> 2; account(15) -> 5;"
                + "account(20) -> 5; undo() -> 4; undo() -> 3; undo() -> 2; sign(0) -> t; balloonOf(0, 1) -> 0; account(0) -> 0;"
                + "letterOf(0, 2) -> 0; account(14) -> 0; account(19) -> 0;");
        run("26: two digits and one", "balloon(30); append \"f0=05;f0=5;h09;h9;b0+01\"; read() -> 5; balloonOf(0, 1) -> 10;"
                + "account(0) -> 18; balloonOf(0, 2) -> 1;");
        run("26: as many orders as there can be", "append \"h1;h1;h1;h1;h1;h1;h1;h1;h1;h1;h1;h1;h1;h1;h1;h1;h1;h1;h1;h1\" -> 59;"
                + "read() -> 20; account(0) -> 20; account(20) -> 1; undo() -> 0; account(0) -> 0;");
        run("26: -0 is a number", "append \"w3:-0,-3\"; read() -> 1; wind(3, 0, 0) -> -3;");
        run("26: a number that is wrong", "balloon(30);"
                + wrongOrder("f0=0") + wrongOrder("f0=00") + wrongOrder("f1=1") + wrongOrder("f9=1") + wrongOrder("b0+0")
                + wrongOrder("b0+51") + wrongOrder("d0-0") + wrongOrder("d0-51") + wrongOrder("d1-1") + wrongOrder("l0@0")
                + wrongOrder("u1") + wrongOrder("h0") + wrongOrder("h49") + wrongOrder("w6:0,0") + wrongOrder("w0:4,0")
                + wrongOrder("w0:0,-4") + "refusal(false) ->" + NO_ELEMENT + "; account(0) -> 0; account(20) -> 1;");
        run("26: no letter and no balloon", "letter(1, 0); append \"l0@0\"; read() ->" + ILLEGAL + "; balloon(10); append \"l1@0\"; read() ->"
                + ILLEGAL + "; append \"l00@0\"; read() -> 1;");
    }

    private static String wrongOrder(String order) {
        return "append \"h1;" + order + ";u0\"; read() -> " + ILLEGAL + "; errorPosition() -> -1; account(19) -> 0; account(0) -> 0;";
    }

    private static void readingRefused() {
        run("26: the first order that cannot be decides", "balloon(30); append \"f0=9;f0=22;f9=1\"; read() ->" + REFUSED
                + "; refusal(false) -> 5; refusal(true) -> 21; balloonOf(0, 1) -> 0; account(2) -> 100; account(19) -> 0;"
                + "errorPosition() -> -1; account(20) -> 1; append \"f0=9;f9=1;f0=22\"; read() ->" + ILLEGAL
                + "; errorPosition() -> -1; refusal(true) -> 21; balloonOf(0, 1) -> 0;");
        run("26: refused in the midst", "balloon(30); append \"f0=3;u0;h9;u0\"; read() ->" + REFUSED + "; refusal(false) -> 2;"
                + "refusal(true) -> 0; sign(0) -> t; account(0) -> 0; account(18) -> 0; balloonOf(0, 11) -> 0; append \"u0\"; read() ->"
                + REFUSED + "; refusal(false) -> 9; refusal(true) -> 3;");
        run("26: refused each way", "balloon(20); letter(1, 0); append \"b0+50;b0+1\"; read() ->" + REFUSED + "; refusal(false) -> 6;"
                + "refusal(true) -> 0; append \"d0-1\"; read() ->" + REFUSED + "; refusal(false) -> 3; append \"l0@0;l0@0\"; read() ->"
                + REFUSED + "; refusal(false) -> 8; letterOf(0, 2) -> 0; account(14) -> 0; isWell() -> true;");
        run("26: undone after what was not read", "ring(1); ring(2); ring(3); ring(4); ring(5); ring(6); ring(7); ring(8); ring(9);"
                + "append \"h1;u0\"; read() ->" + ILLEGAL + "; ring(99) ->" + ILLEGAL + "; account(20) -> 8; account(0) -> 0;"
                + "undo() -> 7; account(1) -> 8; undo(); undo(); undo(); undo(); undo(); undo(); undo() -> 0; account(1) -> 1;"
                + "undo() ->" + NO_STATE);
    }

    private static void errorPositions() {
        String[] texts = {
            "", "x", " u0", "F0=1", "u0 ", "f", "fx", "f0", "f0+1", "f0=", "f0=x", "f0=123", "f0=1;", "f0=1;;", "f0=12x", "b", "b0-1",
            "b0+", "b0+-", "d0+1", "d0-", "d0--1", "d0-1,", "l", "l1", "l12", "l123@0", "l@0", "l1@", "l1@x", "l1@00", "u", "u00", "uu",
            "h", "h;", "h123", "h1h", "w", "w00", "w0:", "w0:-", "w0:--1", "w0:+1", "w0:1", "w0:12", "w0:1,", "w0:1,-", "w0:1,-x",
            "w0:1,22", "w0:1,2,", ";", "h1;h1;", "h1;h1;x"};
        int[] positions = {
            0, 0, 0, 0, 2, 1, 1, 2, 2, 3, 3, 5, 5, 5, 5, 1, 2,
            3, 3, 2, 3, 3, 4, 1, 2, 3, 3, 1, 3, 3, 4, 1, 2, 1,
            1, 1, 3, 2, 1, 2, 3, 4, 4, 3, 4, 4, 5, 6, 6,
            6, 6, 0, 6, 6};
        StringBuilder script = new StringBuilder("balloon(10); errorPosition() -> -1;");
        for (int i = 0; i < texts.length; i++) {
            script.append("append \"").append(texts[i]).append("\"; read() -> ").append(ILLEGAL);
            script.append("; errorPosition() -> ").append(positions[i]).append("; account(19) -> 0;");
        }
        String appendNothing = "append \"\";";
        run("27: errorPosition", script.toString().replace(appendNothing, ""));
        run("27: ends too early at the very end", "append \"h1;h1;h1;h1;h1;h1;h1;h1;h1;h1;h1;h1;h1;h1;h1;h1;h1;h1;h1;h1;\" -> 60; read() ->"
                + ILLEGAL + "; errorPosition() -> 60; append \"h1;h1;h1;h1;h1;h1;h1;h1;h1;h1;h1;h1;h1;h1;h1;h1;h1;h1;h1;f0\" -> 59;"
                + "read() ->" + ILLEGAL + "; errorPosition() -> 59; account(0) -> 0;");
        run("27: an earlier text that was longer", "append \"h1;u0\"; read() ->" + ILLEGAL + "; errorPosition() -> -1; append \"h1;\"; read() ->"
                + ILLEGAL + "; errorPosition() -> 3; append \"f0=55\"; read() ->" + ILLEGAL + "; append \"f0\"; read() ->" + ILLEGAL
                + "; errorPosition() -> 2; append \"h12\"; read() -> 1; append \"h1\"; read() -> 1; account(0) -> 13;");
        run("27: the latest text", "append \"hx\"; read() ->" + ILLEGAL + "; errorPosition() -> 1; append \"h\"; errorPosition() -> 1;"
                + "append \"1\"; read() -> 1; errorPosition() -> -1; append \"x\"; read() ->" + ILLEGAL
                + "; errorPosition() -> 0; undo() -> 0; errorPosition() -> 0; append \"u0\"; read() ->" + ILLEGAL
                + "; errorPosition() -> -1;");
    }

    private static void refusals() {
        run("28: refusal", "refusal(false) ->" + NO_ELEMENT + "; refusal(true) ->" + NO_ELEMENT + "; balloon(20); drop(0, 1) ->" + REFUSED
                + "; refusal(false) -> 3; refusal(true) -> 0; ring(0) ->" + ILLEGAL + "; fill(7, 1) ->" + NO_INDEX
                + "; fill(0, 10); refusal(false) -> 3; save(); undo(); refusal(false) -> 3; fill(0, 30) ->" + REFUSED
                + "; refusal(false) -> 5; refusal(true) -> 20; restore(); refusal(false) -> 5; refusal(true) -> 20;");
    }

    private static void accounts() {
        run("29: account", "account(-1) ->" + ILLEGAL + "; account(21) ->" + ILLEGAL + "; account(MIN) ->" + ILLEGAL + "; account(MAX) ->"
                + ILLEGAL + "; letter(3, 0); letter(3, 1); letter(3, 2); letter(1, 0);" + FLIGHT + "undo(); load(0, 0); launch(0) -> 3;"
                + "balloon(10); load(1, 1); fill(1, 3); launch(1) -> 1; balloon(10); load(2, 2); balloon(99); ballast(3, 6); fill(3, 80);"
                + "launch(3); append \"xy\"; ring(7); pass(2); drop(3, 2); account(0) -> 2; account(1) -> 7; account(2) -> 7;"
                + "account(3) -> 4; account(4) -> 1; account(5) -> 2; account(6) -> 0; account(7) -> 1; account(8) -> 4; account(9) -> 1;"
                + "account(10) -> 2; account(11) -> 0; account(12) -> 1; account(13) -> 0; account(14) -> 6; account(15) -> 2;"
                + "account(16) -> 0; account(17) -> 0; account(18) -> 12; account(19) -> 2; account(20) -> 8; pass(2) -> 1;"
                + "account(4) -> 1; account(5) -> 1; account(6) -> 1; account(7) -> 1; account(10) -> 1; account(11) -> 1;"
                + "account(12) -> 1; account(18) -> 22;");
    }

    private static void fullTown() {
        StringBuilder script = new StringBuilder();
        for (int i = 0; i < 24; i++) {
            script.append("letter(").append(i % 3 + 1).append(", ").append(i % 3).append(");");
        }
        for (int i = 0; i < 6; i++) {
            script.append("balloon(20); fill(").append(i).append(", 12); ballast(").append(i).append(", ").append(i + 1).append(");");
        }
        run("A full town", script + "isWell() -> true; account(4) -> 6; account(9) -> 24; account(14) -> 21; waiting(23) -> 21; waiting(24) ->"
                + NO_ELEMENT + "; weightAgain(0) -> 3; loadAll(0) -> 10; loadAll(5) -> 6; weightAgain(0) -> 12; weightAgain(5) -> 12;"
                + "wind(0, 3, 3); launch(0) -> 0; launch(1) -> 8; launch(2) -> 7; launch(5) -> 0; pass(48) -> 2; account(4) -> 2;"
                + "account(5) -> 0; account(6) -> 2; account(7) -> 2; account(9) -> 8; account(12) -> 16; account(13) -> 0; isWell() -> true;"
                + "meanDistance() -> 12.0; share() -> 0.0; account(14) -> 21; account(16) -> 5; account(17) -> 7;");
    }

    private static void ballastAddsUp() {
        run("30: isWell", "isWell() -> true;" + FLIGHT + "undo(); ballast(0, 2); launch(0) -> 2; balloon(20); ballast(1, 3); isWell() -> true; fill(1, 20); balloon(20);"
                + "ballast(2, 4); fill(2, 20); launch(2); drop(2, 1); isWell() -> true; launch(1); wind(1, 1, 1); wind(2, 1, -1);"
                + "isWell() -> true; pass(48); isWell() -> true; account(14) -> 9; account(15) -> 1; account(16) -> 2; account(17) -> 6; gas(50); balloon(99); fill(3, 50);"
                + "ballast(3, 20); launch(3); wind(0, 3, 3); wind(1, 3, 3); wind(2, 3, 3); wind(3, 3, 3); pass(48);"
                + "balloonOf(3, 9) -> 41; isWell() -> true; undo(); isWell() -> true; save(); pass(3); isWell() -> true; restore();"
                + "isWell() -> true;");
    }

    private static void means() {
        run("31: meanDistance", "meanDistance() ->" + NO_NUMBER + ";" + FLIGHT + "meanDistance() ->" + NO_NUMBER + "; balloon(10); ballast(1, 5);"
                + "fill(1, 9); pass(5) -> 1; meanDistance() -> 12.0; wind(0, -3, 1); launch(1) -> 3; pass(9) -> 1; meanDistance() -> 10.5;"
                + "balloon(10); fill(2, 10); wind(0, 0, 0); launch(2); pass(48) -> 0; meanDistance() -> 10.5; balloon(10);"
                + "wind(0, 0, 2); fill(3, 10); launch(3); ring(1); pass(48) -> 1; meanDistance() -> 9.666666666666666;"
                + "ring(15); meanDistance() -> 9.666666666666666;");
        run("32: share", "share() ->" + NO_NUMBER + "; letter(2, 0); letter(1, 0); letter(1, 0); letter(1, 0); balloon(10); fill(0, 3);"
                + "load(0, 0); load(1, 0); share() ->" + NO_NUMBER + "; launch(0) -> 1; share() ->" + NO_NUMBER + "; pass(9); share() -> 0.0;"
                + "wind(0, 3, 0); balloon(10); fill(1, 5); load(2, 1); launch(1) -> 3; pass(9) -> 1; share() -> 0.33333334;");
        run("32: all delivered", "letter(1, 0);" + FLIGHT + "undo(); load(0, 0); launch(0); pass(9) -> 1; share() -> 1.0;");
    }

    private static void undoing() {
        run("33: undo", "undo() ->" + NO_STATE + "; ring(1); ring(2); undo() -> 1; account(1) -> 1; ring(3) -> 1; undo() -> 1;"
                + "undo() -> 0; account(1) -> 5; undo() ->" + NO_STATE);
        run("33: the latest 8", "gas(1); gas(1); gas(1); gas(1); gas(1); gas(1); gas(1); gas(1); account(20) -> 8; gas(1); gas(1);"
                + "account(20) -> 8; undo() -> 7; account(2) -> 109; undo() -> 6; undo() -> 5; undo() -> 4; undo() -> 3; gas(5) -> 110;"
                + "account(20) -> 4; undo() -> 3; undo() -> 2; undo() -> 1; undo() -> 0; account(2) -> 102; undo() ->" + NO_STATE
                + "; account(2) -> 102;");
        run("33: nothing different is a change too", "gas(999); gas(999); gas(999); gas(999); gas(999); gas(999); gas(999); gas(999);"
                + "gas(999); gas(999) -> 9999; gas(1) -> 9999; undo() -> 7; account(2) -> 9999; undo() -> 6; account(2) -> 9091;");
        run("33: what fails is no change", "balloon(10); fill(0, 99) ->" + REFUSED + "; launch(0) ->" + REFUSED + "; drop(0, 1) ->" + REFUSED
                + "; pass(0) ->" + ILLEGAL + "; account(20) -> 1; undo() -> 0; account(3) -> 0; balloonOf(0, 0) ->" + NO_INDEX
                + "; balloon(77) -> 0; balloonOf(0, 0) -> 77;");
        run("33: the input stays", "append \"u0\"; ring(1); undo() -> 0; account(19) -> 2;");
    }

    private static void undoingEachChange() {
        run("33: each change", "wind(2, 1, 2); undo(); wind(2, 0, 0) -> 0; balloon(20) -> 0; letter(6, 1); letter(5, 2); fill(0, 12); undo();"
                + "balloonOf(0, 1) -> 0; account(2) -> 100; fill(0, 15); ballast(0, 9); undo(); balloonOf(0, 2) -> 0; account(14) -> 0;"
                + "ballast(0, 2); courier(0, 7); undo(); balloonOf(0, 3) -> 0; balloonOf(0, 5) -> 4; letter(1, 1) -> 2; undo();"
                + "account(8) -> 2; load(1, 0); undo(); letterOf(1, 3) -> -1; balloonOf(0, 4) -> 0; balloonOf(0, 5) -> 4; loadAll(0) -> 2;"
                + "undo(); account(9) -> 2; weightAgain(0) -> 4; waiting(0) -> 1; load(0, 0); launch(0) -> 9; undo(); sign(0) -> t;"
                + "launch(0) -> 9; drop(0, 2) -> 0; undo(); balloonOf(0, 2) -> 2; account(15) -> 0; wind(1, 3, 0); pass(48) -> 1;"
                + "account(11) -> 1; account(16) -> 2; account(18) -> 10; undo(); sign(0) -> a; account(0) -> 0; account(18) -> 0;"
                + "account(16) -> 0; balloonOf(0, 9) -> 20; balloonOf(0, 11) -> 0; letterOf(0, 2) -> 1; ring(15); pass(48) -> 0;"
                + "account(17) -> 2; account(12) -> 1; undo(); account(17) -> 0; account(12) -> 0; isWell() -> true;");
        run("33: heights and words come back", FLIGHT + "undo(); fill(0, 1) ->" + REFUSED + "; launch(0); pass(5) -> 1; pass(3); account(13) -> 1;"
                + "undo(); account(13) -> 0; word(0) -> 7; undo(); word(0) ->" + NO_ELEMENT + "; pass(1); pass(4) -> 1; word(0) -> 7;");
    }

    /** The gas tells whether exactly the state ahead of the change came back. */
    private static void undoingOne() {
        String start = "balloon(20); balloon(20); fill(0, 18); fill(1, 2); launch(1) -> 0; letter(3, 1); ballast(0, 3); gas(7) -> 87;";
        String[] changes = {"ring(2)", "wind(1, 1, 1)", "gas(1)", "balloon(10)", "fill(0, 1)", "ballast(0, 2)", "courier(0, 5)",
            "letter(1, 1)", "load(0, 0)", "loadAll(0)", "launch(0)", "pass(1)"};
        for (String change : changes) {
            run("33: " + change, start + change + "; account(20) -> 8; undo() -> 7; account(2) -> 87; account(1) -> 5; account(0) -> 0;"
                    + "account(3) -> 2; balloonOf(0, 1) -> 18; balloonOf(0, 2) -> 3; balloonOf(0, 3) -> 0; account(8) -> 1;"
                    + "account(9) -> 1; account(10) -> 0; sign(0) -> t; sign(1) -> a; account(18) -> 0; account(14) -> 3;"
                    + "waiting(0) -> 0; balloonOf(0, 4) -> 0; balloonOf(0, 5) -> 5; weightAgain(0) -> 5; wind(1, 0, 0) -> 0;");
        }
        run("33: drop", start + "launch(0) -> 13; gas(1) -> 88; drop(0, 2) -> 1; undo() -> 7; account(2) -> 88; balloonOf(0, 2) -> 3;"
                + "account(15) -> 0;");
        run("33: read", start + "append \"h1\"; read() -> 1; undo() -> 7; account(2) -> 87; account(0) -> 0; sign(1) -> a;");
    }

    private static void snapshots() {
        run("34, 35: save and restore", "restore() ->" + NO_STATE + "; save() -> 0; balloon(20); letter(4, 1); wind(0, 3, 1); save() -> 1;"
                + "fill(0, 20); load(0, 0); ring(9); gas(7); balloon(30); launch(0); pass(2); append \"zz\"; account(20) -> 8;"
                + "restore() -> 1; account(20) -> 0; undo() ->" + NO_STATE + "; account(0) -> 0; account(1) -> 5; account(2) -> 100;"
                + "account(3) -> 1; account(18) -> 0; account(19) -> 2; balloonOf(0, 1) -> 0; balloonOf(0, 4) -> 0; sign(0) -> t;"
                + "letterOf(0, 2) -> 0; letterOf(0, 3) -> -1; balloonOf(1, 0) ->" + NO_INDEX + "; wind(0, 0, 0) -> 31; ring(2);"
                + "restore() -> 1; account(1) -> 5; wind(0, 0, 0) -> 31; undo() -> 0; wind(0, 0, 0) -> 31;");
        run("34: a snapshot is no change", "ring(1); save() -> 0; account(20) -> 1; undo() -> 0; account(1) -> 5; restore() -> 0;"
                + "account(1) -> 1; errorPosition() -> -1;");
        run("34: in place of an earlier one", "ring(1); save(); ring(2); save(); ring(3); restore(); account(1) -> 2; restore();"
                + "account(1) -> 2;");
        run("35: the input, the error position and the reason stay", "save(); append \"hx\"; read() ->" + ILLEGAL + "; balloon(10); launch(0) ->"
                + REFUSED + "; append \"q\"; restore() -> 0; errorPosition() -> 1; refusal(false) -> 9; refusal(true) -> 1; account(19) -> 1;");
        run("35: what was added otherwise meanwhile", "balloon(40); fill(0, 40); ballast(0, 1); courier(0, 5); letter(9, 2); load(0, 0);"
                + "save(); undo(); undo(); undo(); undo(); undo(); undo() -> 0; balloon(30); letter(1, 0); fill(0, 3); launch(0) -> 0;"
                + "restore() -> 1; balloonOf(0, 0) -> 40; letterOf(0, 0) -> 9; letterOf(0, 1) -> 2; letterOf(0, 3) -> 0; balloonOf(0, 1) -> 40;"
                + "balloonOf(0, 5) -> 13; sign(0) -> t; undo() ->" + NO_STATE);
        run("35: heights and words", FLIGHT + "pass(5) -> 1; save(); undo(); undo(); undo(); undo(); fill(0, 10); balloon(20); ballast(1, 8);"
                + "fill(1, 20); launch(1) -> 10; wind(2, 0, 1); pass(1); balloonOf(1, 8) -> 2; restore() -> 1; word(0) -> 7; balloonOf(0, 8) -> 0;"
                + "balloon(20); fill(1, 20); launch(1) -> 18; pass(1); balloonOf(1, 8) -> 4; save(); pass(3); balloonOf(1, 8) -> 3;"
                + "drop(1, 1) ->" + REFUSED + "; restore(); balloonOf(1, 8) -> 4;");
        run("35: words come back", FLIGHT + "pass(5) -> 1; word(0) -> 7; save(); undo(); wind(0, 2, 0); pass(5) -> 1; word(0) -> 6; restore();"
                + "word(0) -> 7; balloonOf(0, 9) -> 32;");
        run("35: flights come back", FLIGHT + "pass(3); save() -> 1; pass(2) -> 1; restore() -> 1; sign(0) -> a; balloonOf(0, 9) -> 29;"
                + "balloonOf(0, 11) -> 3; endsIn(0) -> 2; account(18) -> 3; pass(2) -> 1; word(0) -> 7;");
    }
}
