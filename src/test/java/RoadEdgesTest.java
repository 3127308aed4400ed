/**
 * The edges of what is told of a road: how many letters, cars and numbers there can be, where a FAULT is and
 * what it leaves, places in a LANE, the KINDS, the ROW, THE IMAGE and the counts. By hand, by promise.
 */
public final class RoadEdgesTest extends Check {
    private static final String HEADS = "cbwofx";
    private static final String KINDS = "ckpslt";
    private static final String DIGITS = "0123456789";
    private static final String NINE_RIGHT = "cc0000;".repeat(9);
    private static final String EIGHT_LEFT = "cc0100;".repeat(8);

    private static void newObject1() {
        OneFromEachLane x = new OneFromEachLane();
        int[] counts = {0, 0, 0, 0, 1, 0, 0, 0, 0, -9, -9, 0, 0, 0, 0, 0, 0, -9};
        for (int what = 0; what < counts.length; what++) {
            due("1 count(" + what + ")", x.count(what), counts[what]);
        }
        due("1 no row", x.clear(), 0);
        due("1 no letters", x.road(), -1000);
        due("1 the board was none", x.set(0, 0), 0);
        due("1 the wave was 1", x.set(1, 1), 1);
        due("1 no image", x.on(), -3);
    }

    private static void letters2() {
        OneFromEachLane x = new OneFromEachLane();
        for (int i = 0; i < 95; i++) {
            due("2 the letter " + i, x.letter(FULL_OF_BOARDS.charAt(i)), i + 1);
        }
        due("2 the last letter", x.letter(';'), 96);
        due("2 a letter more", x.letter('b'), -6);
        due("2 the road of 96 letters", x.road(), 32);
        due("2 the board of it", x.count(3), 2);
        due("2 the first letter of the next", x.letter(255), 1);
        due("2 one beyond the greatest", x.letter(256), -6);
        due("2 one below the least", x.letter(-1), -4);
        due("2 the least", x.letter(0), 2);
        due("2 how many", x.count(8), 2);
        dueRefusals("2", x, 0, 0, 0, 1, 2);
    }

    private static void howManyStatements3() {
        due("3 none", new OneFromEachLane().road(), -1000);
        due("3 one", tell(new OneFromEachLane(), "w0;"), 1);
        OneFromEachLane most = new OneFromEachLane();
        due("3 96 letters, of cars and others", tell(most, NINE_RIGHT + "b1;".repeat(10) + "w7;"), 20);
        due("3 all cars of them", most.count(0), 9);
        due("3 the last statement of them", most.count(4), 7);
        due("3 the letters are no more", most.road(), -1000);
    }

    /** What may stand at each place of a statement. */
    private static String[] form(char head) {
        String[] car = {HEADS, KINDS, DIGITS, DIGITS, DIGITS, DIGITS, ";"};
        String[] one = {HEADS, DIGITS, ";"};
        String[] two = {HEADS, DIGITS, DIGITS, ";"};
        return head == 'c' ? car : head == 'x' ? two : one;
    }

    /** Each letter at each place of each statement, at the beginning and behind another statement. */
    private static void formFaults3() {
        String[] whole = {"ck9120;", "b2;", "w9;", "o1;", "f1;", "x01;"};
        for (String statement : whole) {
            String[] form = form(statement.charAt(0));
            for (int place = 0; place < form.length; place++) {
                for (int letter = 0; letter <= 255; letter++) {
                    formFault3(statement.substring(0, place), (char) letter, form[place], place == form.length - 1);
                }
            }
        }
    }

    private static void formFault3(String before, char letter, String fitting, boolean isLast) {
        boolean fits = fitting.indexOf(letter) >= 0;
        for (String ahead : new String[] {"", "w1;", "cc0000;b0;"}) {
            int place = ahead.length() + before.length();
            String name = "3 letter " + (int) letter + " behind '" + ahead + before + "'";
            OneFromEachLane x = told("cc0000;cc0100;");
            int got = tell(x, ahead + before + letter);
            if (!fits) {
                due(name, got, -1000 - place);
                due(name + " with more behind", tell(x, ahead + before + letter + ";b3;"), -1000 - place);
            } else if (!isLast) {
                due(name + ", lacking", got, -1000 - place - 1);
            } else {
                due(name + ", whole", got, 1 + (int) ahead.chars().filter(c -> c == ';').count());
            }
            dueRefusals(name, x, 0, 0, 0, 0, 0);
        }
    }

    private static void farFaults3() {
        due("3 lacks at the end of 96", tell(new OneFromEachLane(), "b0;".repeat(31) + "cc0"), -1096);
        due("3 lacks its last at the end of 96", tell(new OneFromEachLane(), "b0;b0;" + "x01;".repeat(22) + "o0"), -1096);
        due("3 the last of 96 letters", tell(new OneFromEachLane(), "b0;".repeat(31) + "b0b"), -1095);
        due("3 the last of 96 statements' letters", tell(new OneFromEachLane(), "b0;".repeat(31) + "b3;"), -2093);
        due("3 a form behind a range", tell(new OneFromEachLane(), "b3;o0;x00;cc0200;;"), -1017);
        due("3 lacking behind a range", tell(new OneFromEachLane(), "b3;o0;w"), -1007);
        due("3 the first of two ranges", tell(new OneFromEachLane(), "w0;b3;b3;"), -2003);
    }

    private static void dueSense(String name, OneFromEachLane x, String statement, boolean holds) {
        due(name + " " + statement, tell(x, "w1;" + statement), holds ? 2 : -2003);
    }

    private static void digitsInRange3() {
        for (int v = 0; v <= 9; v++) {
            dueSense("3 board", told("cc0000;"), "b" + v + ";", v <= 2);
            dueSense("3 wave", told("cc0000;"), "w" + v + ";", true);
            dueSense("3 figure", told("cc0000;"), "ck" + v + "000;", true);
            dueSense("3 lane", told("cc0000;"), "ck0" + v + "00;", v <= 1);
        }
        for (int v = 0; v <= 99; v++) {
            dueSense("3 hurry", told("cc0000;"), "ct01" + v / 10 + v % 10 + ";", v <= 20);
        }
        for (char kind : KINDS.toCharArray()) {
            dueSense("3 kind", told("cc0000;"), "c" + kind + "0000;", true);
        }
    }

    private static void carsThere3() {
        for (int cars : new int[] {0, 1, 2, 8, 9}) {
            for (int a = 0; a <= 9; a++) {
                String road = "cc0000;".repeat(cars);
                dueSense("3 of " + cars, told(road.isEmpty() ? "b0;" : road), "o" + a + ";", a < cars);
                dueSense("3 of " + cars, told(road.isEmpty() ? "b0;" : road), "f" + a + ";", a < cars);
                for (int b = 0; b <= 9; b++) {
                    boolean holds = a < cars && b < cars && a != b;
                    dueSense("3 of " + cars, told(road.isEmpty() ? "b0;" : road), "x" + a + b + ";", holds);
                }
            }
        }
        due("3 told behind it is not ahead", tell(new OneFromEachLane(), "o0;cc0000;"), -2000);
        due("3 told behind it is not ahead, first", tell(new OneFromEachLane(), "cc0000;f1;cc0000;"), -2007);
        due("3 told behind it is not ahead, two", tell(new OneFromEachLane(), "cc0000;x01;cc0000;"), -2007);
        due("3 told just ahead", tell(new OneFromEachLane(), "cc0000;cc0000;o1;f1;x10;"), 5);
    }

    private static void room3() {
        OneFromEachLane x = told("cc0000;".repeat(8));
        due("3 the ninth and the tenth", tell(x, "cc0100;cc0100;"), -2007);
        due("3 with a fault none comes", x.count(0), 8);
        due("3 the ninth", tell(x, "cl7120;"), 1);
        due("3 nine", x.count(0), 9);
        due("3 the last number", x.car(8, 1), 7);
        due("3 the tenth", tell(x, "cc0000;"), -2000);
        due("3 the tenth behind others", tell(x, "b2;w3;cc0000;"), -2006);
        due("3 nine stay", x.count(0), 9);
        due("3 the board stays", x.count(3), 0);
        due("3 others still come", tell(x, "b2;w3;o8;f8;x08;"), 5);
        due("3 nine and one in a road", tell(new OneFromEachLane(), NINE_RIGHT + "cc0000;"), -2063);
    }

    /** With a FAULT nothing comes of it, and only the letters are no more. */
    private static void faultChangesNothing3() {
        String before = "cl0019;b1;w4;o0;f1;x01;";
        for (String faulty : new String[] {before + "z", before + "b", before + "b3;", before + "x00;", before + "cc0021;"}) {
            OneFromEachLane x = some3();
            OneFromEachLane twin = some3();
            int fault = tell(x, faulty);
            due("3 a fault in " + faulty, fault < -1000 ? 1 : 0, 1);
            due("3 letters behind " + faulty, x.count(8), 0);
            dueRefusals("3 behind " + faulty, x, 0, 0, 0, 1, 0);
            dueAlike("3 behind " + faulty, x, twin);
        }
    }

    private static OneFromEachLane some3() {
        OneFromEachLane x = told("ck1010;cp0105;cc0003;b2;w6;");
        x.image();
        x.standFirst(2);
        tellRow(x, 1, 2);
        x.row(-1);
        return x;
    }

    private static void lanes3() {
        OneFromEachLane x = told("cc0000;o0;cc0100;cc0000;cc0000;f3;cc0000;");
        dueLane("3 right", x, 0, 3, 2, 4);
        dueLane("3 left", x, 1, 0, 1);
        tell(x, "o3;cc0100;f1;");
        dueLane("3 right behind more", x, 0, 2, 4);
        dueLane("3 left behind more", x, 1, 1, 0, 3, 5);
        OneFromEachLane back = told("cc0000;cc0000;cc0000;o0;o0;");
        dueLane("3 over and back is the end", back, 0, 1, 2, 0);
        OneFromEachLane first = told("cc0000;cc0100;cc0000;cc0100;f3;f2;f2;");
        dueLane("3 first of its own", first, 0, 2, 0);
        dueLane("3 first of its own, left", first, 1, 3, 1);
    }

    /** KINDS and FIGURES change; LANES, places and HURRY stay. */
    private static void exchange3() {
        for (String change : new String[] {"x03;", "x30;"}) {
            OneFromEachLane x = told("ck3005;cc0000;cc0100;cl7120;" + change);
            due("3 kind of 0", x.car(0, 0), 4);
            due("3 figure of 0", x.car(0, 1), 7);
            due("3 hurry of 0", x.car(0, 3), 5);
            due("3 kind of 3", x.car(3, 0), 1);
            due("3 figure of 3", x.car(3, 1), 3);
            due("3 hurry of 3", x.car(3, 3), 20);
            dueLane("3 right", x, 0, 0, 1);
            dueLane("3 left", x, 1, 2, 3);
        }
    }

    /** The KINDS' tree: whom each LETS in by each BOARD and FIGURE, and its SECONDS. */
    private static void car4() {
        int[] seconds = {2, 2, 1, 3, 4, 2};
        for (int board = 0; board <= 2; board++) {
            for (int figure = 0; figure <= 9; figure++) {
                int[] lets = {board, figure, Math.max(board - 1, 0), 0, board, 1};
                for (int kind = 0; kind < 6; kind++) {
                    OneFromEachLane x = told("c" + KINDS.charAt(kind) + figure + "100;b" + board + ";");
                    String name = "4 " + KINDS.charAt(kind) + figure + " by board " + board;
                    due(name + " kind", x.car(0, 0), kind);
                    due(name + " figure", x.car(0, 1), figure);
                    due(name + " lets", x.car(0, 5), lets[kind]);
                    due(name + " seconds", x.car(0, 6), seconds[kind]);
                }
            }
        }
        OneFromEachLane nine = told(EIGHT_LEFT + "cc0120;");
        dueLane("4 nine in a lane", nine, 1, 0, 1, 2, 3, 4, 5, 6, 7, 8);
        due("4 hurry of the last", nine.car(8, 3), 20);
        due("4 hurry of the first", nine.car(0, 3), 0);
    }

    private static void hurry5() {
        OneFromEachLane x = told("cc0020;", "cc0100;");
        due("5 the greatest", x.hurry(1, 20), 0);
        due("5 beyond it", x.hurry(1, 21), -6);
        due("5 the least", x.hurry(0, 0), 20);
        due("5 below it", x.hurry(0, -1), -4);
        due("5 the same again", x.hurry(1, 20), 20);
        due("5 of 0", x.car(0, 3), 0);
        due("5 of 1", x.car(1, 3), 20);
    }

    private static void goOver6() {
        OneFromEachLane one = told("cc0000;");
        due("6 to a lane of none", one.goOver(0), 0);
        due("6 it is left", one.count(2), 1);
        due("6 none is right", one.count(1), 0);
        due("6 back", one.goOver(0), 0);
        OneFromEachLane nine = told("cc0000;" + EIGHT_LEFT);
        due("6 to a lane of eight", nine.goOver(0), 8);
        dueLane("6 behind all that stood there", nine, 1, 1, 2, 3, 4, 5, 6, 7, 8, 0);
        due("6 the last number, back alone", nine.goOver(8), 0);
        due("6 another behind it", nine.goOver(1), 1);
        dueLane("6 right", nine, 0, 8, 1);
        dueLane("6 left", nine, 1, 2, 3, 4, 5, 6, 7, 0);
        due("6 beyond the last number", nine.goOver(9), -1);
    }

    private static void standFirst7() {
        OneFromEachLane one = told("cc0100;");
        due("7 alone", one.standFirst(0), 0);
        OneFromEachLane nine = told(NINE_RIGHT);
        due("7 the last of nine", nine.standFirst(8), 8);
        dueLane("7 the others behind it", nine, 0, 8, 0, 1, 2, 3, 4, 5, 6, 7);
        due("7 the first already", nine.standFirst(8), 0);
        due("7 in the middle", nine.standFirst(3), 4);
        dueLane("7 right", nine, 0, 3, 8, 0, 1, 2, 4, 5, 6, 7);
        OneFromEachLane both = told("cc0000;cc0100;cc0000;cc0100;");
        due("7 the last left", both.standFirst(3), 1);
        dueLane("7 the other lane stays", both, 0, 0, 2);
        dueLane("7 left", both, 1, 3, 1);
    }

    private static void set8() {
        OneFromEachLane x = told("cc0000;cc0100;b1;w5;");
        due("8 the greatest board", x.set(0, 2), 1);
        due("8 beyond it", x.set(0, 3), -6);
        due("8 the same again", x.set(0, 2), 2);
        due("8 the least board", x.set(0, 0), 2);
        due("8 below it", x.set(0, -1), -4);
        due("8 the greatest wave", x.set(1, 9), 5);
        due("8 beyond it", x.set(1, 10), -6);
        due("8 the same again", x.set(1, 9), 9);
        due("8 the least wave", x.set(1, 0), 9);
        due("8 below it", x.set(1, -1), -4);
        due("8 the board", x.count(3), 0);
        due("8 the wave", x.count(4), 0);
        due("8 a wave that is no board", x.set(1, 3), 0);
        due("8 the board stays", x.count(3), 0);
    }

    private static void row30To32() {
        OneFromEachLane x = new OneFromEachLane();
        due("32 none", x.clear(), 0);
        due("30 the least", x.row(0), 1);
        due("30 below it", x.row(-1), -4);
        due("30 the greatest", x.row(99), 2);
        due("30 beyond it", x.row(100), -6);
        for (int i = 3; i <= 12; i++) {
            due("30 number " + i, x.row(i), i);
        }
        due("30 one more than there can be", x.row(0), -6);
        due("30 how many", x.count(7), 12);
        due("32 all of them", x.clear(), 12);
        due("32 none then", x.clear(), 0);
        due("30 the first again", x.row(5), 1);
        due("31 nobody goes", x.judge(), 0);
        due("31 the row has none then", x.clear(), 0);
    }

    private static void judge31() {
        OneFromEachLane x = told(NINE_RIGHT);
        due("31 none", x.judge(), -9);
        tellRow(x, 0, 1, 2, 3, 4, 5, 6, 7);
        due("31 fewer than the turns", x.judge(), -9);
        due("31 the row has none though all is so", x.count(7), 0);
        tellRow(x, 0, 1, 2, 3, 4, 5, 6, 7, 8);
        due("31 all turns", x.judge(), -9);
        tellRow(x, 0, 1, 2, 3, 4, 5, 6, 7, 8, 0);
        due("31 beyond", x.judge(), 9);
        due("31 the row has none though it is not so", x.count(7), 0);
        tellRow(x, 0, 1, 2, 3, 4, 5, 6, 7, 8, 9, 10, 11);
        due("31 the most numbers", x.judge(), 9);
        tellRow(x, 0, 1, 2, 3, 4, 5, 6, 7, 7);
        due("31 the last turn", x.judge(), 8);
        tellRow(x, 99, 1, 3);
        due("31 the first of two", x.judge(), 0);
        tellRow(x, 9);
        due("31 no such car", x.judge(), 0);
        dueRefusals("31", x, 0, 0, 0, 0, 0);
    }

    private static void image34And35() {
        OneFromEachLane x = new OneFromEachLane();
        due("35 there is none", x.on(), -3);
        due("34 of nobody", x.image(), 0);
        due("34 nine told", tell(x, "b2;w9;" + NINE_RIGHT), 11);
        due("35 from nobody", x.on(), 0);
        due("35 nobody", x.count(0), 0);
        due("35 the board as then", x.count(3), 0);
        due("35 the wave as then", x.count(4), 1);
        due("35 numbers from 0 again", tell(x, "cl5117;"), 1);
        due("35 the new one is 0", x.car(0, 1), 5);
        tell(x, EIGHT_LEFT + "f8;w2;");
        due("34 of nine", x.image(), 9);
        tell(x, "x01;o4;f3;b1;w0;");
        x.hurry(0, 1);
        for (int times = 0; times < 2; times++) {
            due("35 from nine", x.on(), 9);
            dueLane("35 the places as then", x, 1, 8, 0, 1, 2, 3, 4, 5, 6, 7);
            due("35 the kind as then", x.car(0, 0), 4);
            due("35 the figure as then", x.car(0, 1), 5);
            due("35 the hurry as then", x.car(0, 3), 17);
            due("35 the board as then", x.count(3), 0);
            due("35 the wave as then", x.count(4), 2);
            tell(x, "o0;x17;f5;b2;w9;");
        }
        due("34 of nine again", x.image(), 9);
        due("35 from the newer one", x.on(), 9);
        due("35 the lane as then", x.car(0, 2), 0);
    }

    /** ROW, letters and REFUSALS are not of THE IMAGE: they stay. */
    private static void notOfTheImage35() {
        OneFromEachLane x = told("cc0000;");
        x.row(-1);
        x.row(0);
        spell(x, "b1;");
        x.image();
        x.row(0);
        x.row(100);
        x.sums(5);
        spell(x, "w3;");
        due("35 on()", x.on(), 1);
        due("35 the row stays", x.count(7), 2);
        due("35 the letters stay", x.count(8), 6);
        dueRefusals("35", x, 0, 1, 0, 1, 1);
        x.clear();
        due("35 the letters are as they were", x.road(), 2);
        due("35 on() again", x.on(), 1);
        due("35 no row comes back", x.count(7), 0);
        due("35 no letters come back", x.count(8), 0);
        due("35 the board as then", x.count(3), 0);
    }

    private static void counts36() {
        OneFromEachLane most = told("cl0020;".repeat(5) + "cl0120;".repeat(4) + "b2;w9;");
        tellRow(most, 0, 0, 0, 0, 0, 0, 0, 0, 0, 0, 0, 0);
        spell(most, FULL_OF_BOARDS);
        int[] greatest = {9, 5, 4, 2, 9, 180, 36, 12, 96};
        for (int what = 0; what < greatest.length; what++) {
            due("36 the most count(" + what + ")", most.count(what), greatest[what]);
        }
        OneFromEachLane few = told("cp0100;w0;");
        int[] least = {1, 0, 1, 0, 0, 0, 1, 0, 0};
        for (int what = 0; what < least.length; what++) {
            due("36 the least count(" + what + ")", few.count(what), least[what]);
        }
        due("36 nine of the right", told(NINE_RIGHT).count(1), 9);
        due("36 nine of the left", told(EIGHT_LEFT + "cc0100;").count(2), 9);
        due("36 seconds without waves", told("cc0000;cs0100;ck0000;ct0100;cp0100;w9;").count(6), 10);
    }

    public static void main(String[] args) {
        newObject1();
        letters2();
        howManyStatements3();
        formFaults3();
        farFaults3();
        digitsInRange3();
        carsThere3();
        room3();
        faultChangesNothing3();
        lanes3();
        exchange3();
        car4();
        hurry5();
        goOver6();
        standFirst7();
        set8();
        row30To32();
        judge31();
        image34And35();
        notOfTheImage35();
        counts36();
        end();
    }
}
