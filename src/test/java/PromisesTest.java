/** For each promise of the document its ordinary answers, its edges and its refusals, reckoned by hand. */
public final class PromisesTest extends Check {
    private static void newObject1() {
        OneFromEachLane x = new OneFromEachLane();
        int[] first = {0, 0, 0, 0, 1, 0, 0, 0, 0};
        for (int what = 0; what < first.length; what++) {
            due("1 count(" + what + ")", x.count(what), first[what]);
        }
        dueRefusals("1", x, 0, 0, 0, 0, 0);
    }

    private static void letter2() {
        OneFromEachLane x = new OneFromEachLane();
        due("2 letter(0)", x.letter(0), 1);
        due("2 letter(255)", x.letter(255), 2);
        due("2 letter(-1)", x.letter(-1), -4);
        due("2 letter(256)", x.letter(256), -6);
        due("2 letter(least)", x.letter(Integer.MIN_VALUE), -4);
        due("2 letter(greatest)", x.letter(Integer.MAX_VALUE), -6);
        due("2 count(8)", x.count(8), 2);
        for (int i = 3; i <= 96; i++) {
            due("2 letter the " + i + ".", x.letter(';'), i);
        }
        due("2 letter the 97.", x.letter(';'), -6);
        due("2 letter(-1) when full", x.letter(-1), -4);
        due("2 count(8) when full", x.count(8), 96);
        dueRefusals("2", x, 0, 0, 0, 3, 3);
    }

    private static void dueFault(String text, int want) {
        OneFromEachLane x = told("cc1102;ck3017;b1;w4;");
        due("3 road() of '" + text + "'", tell(x, text), want);
        due("3 letters behind '" + text + "'", x.count(8), 0);
        due("3 cars behind '" + text + "'", x.count(0), 2);
        due("3 board behind '" + text + "'", x.count(3), 1);
        due("3 wave behind '" + text + "'", x.count(4), 4);
        due("3 kind behind '" + text + "'", x.car(0, 0), 0);
        due("3 lane behind '" + text + "'", x.car(0, 2), 1);
        dueRefusals("3 behind '" + text + "'", x, 0, 0, 0, 0, 0);
    }

    private static void road3() {
        OneFromEachLane x = new OneFromEachLane();
        due("3 road() of nothing", x.road(), -1000);
        due("3 road()", tell(x, "cc0000;ck9120;b2;w9;x01;o0;f0;"), 7);
        due("3 letters are no more", x.count(8), 0);
        due("3 kind of 0", x.car(0, 0), 1);
        due("3 figure of 0", x.car(0, 1), 9);
        due("3 hurry of 0", x.car(0, 3), 0);
        due("3 lane of 0", x.car(0, 2), 1);
        due("3 place of 0", x.car(0, 4), 0);
        due("3 place of 1", x.car(1, 4), 1);
        due("3 kind of 1", x.car(1, 0), 0);
        due("3 hurry of 1", x.car(1, 3), 20);
        due("3 board", x.count(3), 2);
        due("3 wave", x.count(4), 9);
        due("3 a road more", tell(x, "cp0007;o1;"), 2);
        due("3 cars", x.count(0), 3);
        due("3 place of 1 behind 2", x.car(1, 4), 1);
        formFaults3();
        senseFaults3();
        StringBuilder nine = new StringBuilder();
        for (int i = 0; i < 9; i++) {
            nine.append("cc0000;");
        }
        due("3 nine cars", tell(new OneFromEachLane(), nine.toString()), 9);
        due("3 ten cars", tell(new OneFromEachLane(), nine + "b1;cc0000;"), -2066);
        OneFromEachLane full = told(nine.toString());
        due("3 no room in a road more", tell(full, "o8;cc0000;"), -2003);
        due("3 nothing of it came", full.count(2), 0);
        due("3 the tenth has no name", tell(full, "f8;o9;"), -2003);
    }

    private static void formFaults3() {
        dueFault("", -1000);
        dueFault("z", -1000);
        dueFault(";", -1000);
        dueFault("C", -1000);
        dueFault("c", -1001);
        dueFault("cb0000;", -1001);
        dueFault("cx0000;", -1001);
        dueFault("c00000;", -1001);
        dueFault("cca000;", -1002);
        dueFault("cc0a00;", -1003);
        dueFault("cc00;", -1004);
        dueFault("cc000;", -1005);
        dueFault("cc00000;", -1006);
        dueFault("cc0000", -1006);
        dueFault("cc0000;c", -1008);
        dueFault("cc0000;;", -1007);
        dueFault("b", -1001);
        dueFault("b;", -1001);
        dueFault("b1", -1002);
        dueFault("b1b1;", -1002);
        dueFault("w10;", -1002);
        dueFault("w/;", -1001);
        dueFault("w:;", -1001);
        dueFault("o01;", -1002);
        dueFault("f;", -1001);
        dueFault("x0;", -1002);
        dueFault("x012;", -1003);
        dueFault("b1; w1;", -1003);
        dueFault("b9;z", -1003);
        dueFault("b9;b9", -1005);
        StringBuilder most = new StringBuilder();
        for (int i = 0; i < 31; i++) {
            most.append("b2;");
        }
        dueFault(most + "cc0", -1096);
    }

    private static void senseFaults3() {
        dueFault("b3;", -2000);
        dueFault("w0;b3;", -2003);
        dueFault("cc0200;", -2000);
        dueFault("cc0021;", -2000);
        dueFault("cc0099;", -2000);
        dueFault("o2;", -2000);
        dueFault("f2;", -2000);
        dueFault("x02;", -2000);
        dueFault("x20;", -2000);
        dueFault("x00;", -2000);
        dueFault("x11;", -2000);
        dueFault("o0;x01;f1;b0;w0;b3;b4;", -2016);
        dueFault("o2;cc0000;", -2000);
        dueFault("cc0000;o2;o3;", -2010);
    }

    private static void car4() {
        OneFromEachLane x = told("cc0010;ck9120;cp3007;cs4100;cl5002;ct6101;b0;");
        int[] figures = {0, 9, 3, 4, 5, 6};
        int[] hurries = {10, 20, 7, 0, 2, 1};
        int[][] lets = {{0, 9, 0, 0, 0, 1}, {1, 9, 0, 0, 1, 1}, {2, 9, 1, 0, 2, 1}};
        int[] seconds = {2, 2, 1, 3, 4, 2};
        for (int car = 0; car < 6; car++) {
            due("4 kind of " + car, x.car(car, 0), car);
            due("4 figure of " + car, x.car(car, 1), figures[car]);
            due("4 lane of " + car, x.car(car, 2), car % 2);
            due("4 hurry of " + car, x.car(car, 3), hurries[car]);
            due("4 place of " + car, x.car(car, 4), car / 2);
            due("4 seconds of " + car, x.car(car, 6), seconds[car]);
        }
        for (int board = 0; board <= 2; board++) {
            x.set(0, board);
            for (int car = 0; car < 6; car++) {
                due("4 lets of " + car + " by board " + board, x.car(car, 5), lets[board][car]);
            }
        }
        due("4 car(6, 0)", x.car(6, 0), -1);
        due("4 car(-1, 0)", x.car(-1, 0), -1);
        due("4 car(6, 7)", x.car(6, 7), -1);
        due("4 car(0, 7)", x.car(0, 7), -2);
        due("4 car(0, -1)", x.car(0, -1), -2);
        dueRefusals("4", x, 3, 2, 0, 0, 0);
    }

    private static void hurry5() {
        OneFromEachLane x = told("cc0010;");
        due("5 hurry(0, 20)", x.hurry(0, 20), 10);
        due("5 hurry(0, 0)", x.hurry(0, 0), 20);
        due("5 hurry(0, 21)", x.hurry(0, 21), -6);
        due("5 hurry(0, -1)", x.hurry(0, -1), -4);
        due("5 hurry(1, -1)", x.hurry(1, -1), -1);
        due("5 hurry(-1, 21)", x.hurry(-1, 21), -1);
        due("5 car(0, 3)", x.car(0, 3), 0);
        dueRefusals("5", x, 2, 0, 0, 1, 1);
    }

    private static void goOver6() {
        OneFromEachLane x = told("cc0000;cc0000;cc0100;");
        due("6 goOver(0)", x.goOver(0), 1);
        due("6 lane", x.car(0, 2), 1);
        due("6 the next is first", x.car(1, 4), 0);
        due("6 goOver(0) back", x.goOver(0), 1);
        due("6 lane back", x.car(0, 2), 0);
        due("6 goOver(2)", x.goOver(2), 2);
        due("6 goOver(3)", x.goOver(3), -1);
        due("6 goOver(-1)", x.goOver(-1), -1);
        due("6 count(2)", x.count(2), 0);
        dueRefusals("6", x, 2, 0, 0, 0, 0);
    }

    private static void standFirst7() {
        OneFromEachLane x = told("cc0000;cc0100;cc0000;cc0000;");
        due("7 standFirst(3)", x.standFirst(3), 2);
        due("7 place of 3", x.car(3, 4), 0);
        due("7 place of 0", x.car(0, 4), 1);
        due("7 place of 2", x.car(2, 4), 2);
        due("7 place of 1", x.car(1, 4), 0);
        due("7 standFirst(3) again", x.standFirst(3), 0);
        due("7 lane of 3", x.car(3, 2), 0);
        due("7 standFirst(4)", x.standFirst(4), -1);
        due("7 standFirst(-1)", x.standFirst(-1), -1);
        dueRefusals("7", x, 2, 0, 0, 0, 0);
    }

    private static void set8() {
        OneFromEachLane x = new OneFromEachLane();
        due("8 set(0, 2)", x.set(0, 2), 0);
        due("8 set(0, 0)", x.set(0, 0), 2);
        due("8 set(1, 9)", x.set(1, 9), 1);
        due("8 set(1, 0)", x.set(1, 0), 9);
        due("8 set(0, 3)", x.set(0, 3), -6);
        due("8 set(1, 10)", x.set(1, 10), -6);
        due("8 set(0, -1)", x.set(0, -1), -4);
        due("8 set(1, -1)", x.set(1, -1), -4);
        due("8 set(2, -1)", x.set(2, -1), -2);
        due("8 set(-1, 99)", x.set(-1, 99), -2);
        due("8 count(3)", x.count(3), 0);
        due("8 count(4)", x.count(4), 0);
        dueRefusals("8", x, 0, 2, 0, 2, 2);
    }

    private static void order9() {
        dueOrder("9 nobody", new OneFromEachLane());
        dueOrder("9 right ones first", told("cc0100;cc0100;cc0000;cc0000;"), 2, 3, 0, 1);
        dueOrder("9 only left ones", told("cp0100;cc0100;"), 0, 1);
        dueOrder("9 each lets one in", told("cc0000;cc0000;cc0100;cc0100;cc0100;b1;"), 2, 0, 3, 1, 4);
        dueOrder("9 each lets two in", told("cc0000;cc0000;cc0100;cc0100;cc0100;b2;"), 2, 3, 0, 4, 1);
        dueOrder("9 pushes in once", told("ck1000;cp0100;cp0100;cp0100;cc0000;"), 1, 2, 0, 4, 3);
        dueOrder("9 pushes in behind those let in", told("ck2000;cp0100;cp0100;cp0100;cp0100;"), 1, 2, 3, 0, 4);
        dueOrder("9 a right one does not push", told("cp0000;cp0000;ck5100;ck5100;"), 0, 1, 2, 3);
        dueOrder("9 pushes in again behind another", told("ct0000;ct0000;cp0100;cp0100;cp0100;cp0100;cp0100;"),
            2, 3, 0, 4, 5, 1, 6);
        OneFromEachLane x = told("cc0000;");
        due("9 order(-1)", x.order(-1), -1);
        due("9 order(greatest)", x.order(Integer.MAX_VALUE), -1);
        dueRefusals("9", x, 2, 0, 0, 0, 0);
    }

    private static void of10() {
        OneFromEachLane x = told("ck1000;cp0100;cp0100;cp0100;cc0000;");
        int[] waits = {5, 1, 2, 9, 7};
        int[] turns = {2, 0, 1, 4, 3};
        for (int car = 0; car < 5; car++) {
            due("10 of(" + car + ", 0)", x.of(car, 0), waits[car]);
            due("10 of(" + car + ", 1)", x.of(car, 1), turns[car]);
        }
        x.set(1, 9);
        due("10 wait by wave 9", x.of(3, 0), 25);
        x.set(1, 0);
        due("10 wait by wave 0", x.of(3, 0), 7);
        due("10 of(5, 2)", x.of(5, 2), -1);
        due("10 of(-1, 0)", x.of(-1, 0), -1);
        due("10 of(0, 2)", x.of(0, 2), -2);
        due("10 of(0, -1)", x.of(0, -1), -2);
        dueRefusals("10", x, 2, 2, 0, 0, 0);
    }

    private static void sums11() {
        OneFromEachLane x = told("ck1003;cp0101;cp0102;cp0110;cc0020;");
        int[] sums = {9, 24, 15 + 1 + 4 + 90 + 140, 2, 2};
        for (int what = 0; what <= 4; what++) {
            due("11 sums(" + what + ")", x.sums(what), sums[what]);
            due("11 sums(" + what + ") of nobody", new OneFromEachLane().sums(what), 0);
        }
        due("11 sums(5)", x.sums(5), -2);
        due("11 sums(-1)", x.sums(-1), -2);
        due("11 one change of three", told("cc0000;cc0000;cc0000;cc0100;").sums(3), 1);
        due("11 longest run of three", told("cc0000;cc0000;cc0000;cc0100;").sums(4), 3);
        dueRefusals("11", x, 0, 2, 0, 0, 0);
    }

    private static void queue12() {
        OneFromEachLane x = told("ck1000;cp0100;cp0100;cp0100;cc0000;");
        int[] right = {2, 2, 2, 1, 0, 0};
        int[] left = {3, 2, 1, 1, 1, 0};
        for (int n = 0; n <= 5; n++) {
            due("12 queue(0, " + n + ")", x.queue(0, n), right[n]);
            due("12 queue(1, " + n + ")", x.queue(1, n), left[n]);
        }
        due("12 queue(0, 6)", x.queue(0, 6), -6);
        due("12 queue(1, -1)", x.queue(1, -1), -4);
        due("12 queue(2, -1)", x.queue(2, -1), -1);
        due("12 queue(-1, 6)", x.queue(-1, 6), -1);
        dueRefusals("12", x, 2, 0, 0, 1, 1);
    }

    private static void bestBoard13() {
        OneFromEachLane x = told("cc0010;ct0105;b2;");
        due("13 bestBoard()", x.bestBoard(), 0);
        x.hurry(0, 5);
        x.hurry(1, 10);
        x.set(0, 0);
        due("13 bestBoard() of two alike", x.bestBoard(), 1);
        due("13 the board stays", x.count(3), 0);
        due("13 two let in are best", told("cc0000;cc0120;cc0120;").bestBoard(), 2);
        due("13 bestBoard() of nobody", new OneFromEachLane().bestBoard(), 0);
    }

    private static void over14() {
        OneFromEachLane x = told("cc0000;cc0120;");
        due("14 over(0)", x.over(0), 0);
        due("14 over(1)", x.over(1), 40);
        due("14 the lane stays", x.car(0, 2), 0);
        due("14 over(2)", x.over(2), -2);
        due("14 over(-1)", x.over(-1), -2);
        OneFromEachLane best = told("cc0020;");
        due("14 over(0) not less than now", best.over(0), -9);
        due("14 over(1) not less than now", best.over(1), -9);
        OneFromEachLane alike = told("cc0100;cc0100;cc0000;cc0120;");
        due("14 over(0) of several", alike.over(0), 3);
        due("14 over(1) of several", alike.over(1), 80);
        dueRefusals("14", x, 0, 2, 0, 0, 0);
    }

    private static void first15() {
        OneFromEachLane x = told("cc0001;cc0020;");
        due("15 first(0)", x.first(0), 1);
        due("15 first(1)", x.first(1), 44);
        due("15 the place stays", x.car(1, 4), 1);
        due("15 first(2)", x.first(2), -2);
        due("15 first(-1)", x.first(-1), -2);
        due("15 two alike", told("cc0000;cc0007;cc0007;").first(0), 1);
        OneFromEachLane best = told("cc0020;cc0001;");
        due("15 first(0) not less than now", best.first(0), -9);
        due("15 first(1) not less than now", best.first(1), -9);
        dueRefusals("15", x, 0, 2, 0, 0, 0);
    }

    private static void lets16() {
        OneFromEachLane x = told("cc0000;cc0120;");
        due("16 lets()", x.lets(), 1);
        due("16 the kind stays", x.car(0, 0), 0);
        due("16 the second lets in three", told("cs0001;cc0020;cc0120;cc0120;cc0120;").lets(), 3);
        due("16 a lorry is quicker as a kind one", told("cc0000;cl0000;cc0001;").lets(), 10);
        due("16 lets() none", told("cc0020;cc0100;").lets(), -9);
        due("16 lets() of nobody", new OneFromEachLane().lets(), -9);
    }

    private static void spoil17() {
        OneFromEachLane x = told("w9;b2;cc0000;cc0000;cc0100;cc0100;cc0100;cc0100;");
        due("17 sums(0)", x.sums(0), 39);
        due("17 spoil(0)", x.spoil(0), 1);
        due("17 spoil(1)", x.spoil(1), 1);
        due("17 the kind stays", x.car(0, 0), 0);
        OneFromEachLane pair = told("w9;ct0100;ct0100;ck2100;ck0000;cc1000;b2;");
        due("17 spoil(0) by two", pair.spoil(0), 24);
        due("17 spoil(1) by two", pair.spoil(1), 2);
        OneFromEachLane none = told("cc0000;cc0100;");
        due("17 spoil(0) none", none.spoil(0), -9);
        due("17 spoil(1) none", none.spoil(1), -9);
        due("17 a pusher already", told("cp0000;").spoil(0), -9);
        due("17 spoil(2)", x.spoil(2), -2);
        due("17 spoil(-1)", x.spoil(-1), -2);
        dueRefusals("17", x, 0, 2, 0, 0, 0);
    }

    private static void mend18() {
        OneFromEachLane x = told("cc0000;cc0120;");
        due("18 mend(0)", x.mend(0), 1);
        due("18 mend(1)", x.mend(1), 1);
        OneFromEachLane second = told("ct0000;cs0000;cc0120;");
        due("18 mend(0) by the second, that is slow", second.mend(0), -9);
        OneFromEachLane quick = told("cl0000;cc0020;");
        due("18 mend(0) by a quicker one", quick.mend(0), 1);
        OneFromEachLane none = told("cc0020;cc0100;");
        due("18 mend(0) none", none.mend(0), -9);
        due("18 mend(1) none", none.mend(1), -9);
        due("18 mend(2)", x.mend(2), -2);
        due("18 mend(-1)", x.mend(-1), -2);
        dueRefusals("18", x, 0, 2, 0, 0, 0);
    }

    private static void loses19() {
        OneFromEachLane x = told("ck1000;cc0100;cc0000;");
        due("19 loses(1, 0)", x.loses(1, 0), -3);
        due("19 loses(0, 1)", x.loses(0, 1), 3);
        due("19 loses(1, 2)", x.loses(1, 2), 0);
        due("19 loses(2, 0)", x.loses(2, 0), 5);
        due("19 all are there", x.count(0), 3);
        due("19 loses(0, 0)", x.loses(0, 0), 1000000001);
        due("19 loses(3, 0)", x.loses(3, 0), 1000000001);
        due("19 loses(0, 3)", x.loses(0, 3), 1000000001);
        due("19 loses(-1, 0)", x.loses(-1, 0), 1000000001);
        due("19 loses(0, -1)", x.loses(0, -1), 1000000001);
        dueRefusals("19", x, 5, 0, 0, 0, 0);
    }

    private static void byWhom20() {
        OneFromEachLane x = told("ck1000;cc0100;cc0000;");
        due("20 byWhom(0)", x.byWhom(0), 1);
        due("20 byWhom(1)", x.byWhom(1), 2);
        due("20 byWhom(2)", x.byWhom(2), 0);
        due("20 byWhom(3)", x.byWhom(3), -1);
        due("20 byWhom(-1)", x.byWhom(-1), -1);
        due("20 of several", told("cc0000;cc0000;cc0000;").byWhom(2), 0);
        due("20 nobody else", told("cc0000;").byWhom(0), -9);
        due("20 the only other, by whom it gains", told("ck1000;cc0100;").byWhom(1), 0);
        dueRefusals("20", x, 2, 0, 0, 0, 0);
    }

    private static void two21() {
        OneFromEachLane x = told("cc0100;cc0000;");
        due("21 two(0, 1)", x.two(0, 1), 0);
        due("21 the lane stays", x.car(0, 2), 1);
        x.set(0, 1);
        due("21 two(0, 1) by board 1", x.two(0, 1), 11);
        due("21 the first goes left alone", told("ct0000;cc0000;cc0000;").two(1, 2), 10);
        due("21 the other goes left alone", told("cc0100;ct0000;cc0000;").two(2, 1), 1);
        due("21 waits alike in both lanes", told("cc0000;cc0000;w0;").two(0, 1), 0);
        due("21 no pair stays", told("ct0000;cc0000;").two(0, 1), -9);
        due("21 two(0, 0)", x.two(0, 0), -1);
        due("21 two(0, 2)", x.two(0, 2), -1);
        due("21 two(2, 0)", x.two(2, 0), -1);
        due("21 two(-1, 0)", x.two(-1, 0), -1);
        due("21 two(0, -1)", x.two(0, -1), -1);
        dueRefusals("21", x, 5, 0, 0, 0, 0);
    }

    private static void fair22() {
        due("22 fair()", told("cc0000;cc0100;").fair(), 0);
        due("22 fair() of one", told("cc0000;cc0100;b1;").fair(), 1);
        due("22 fair() of four", told("cc0000;cc0000;cc0100;cc0100;b2;").fair(), 4);
        due("22 fair() of nobody", new OneFromEachLane().fair(), 0);
    }

    private static void lucky23() {
        due("23 lucky()", told("cc0000;cc0100;b1;").lucky(), 1);
        due("23 lucky() of several", told("cc0000;cc0000;cc0100;cc0100;b2;").lucky(), 2);
        due("23 lucky() none", told("cc0000;cc0100;").lucky(), -9);
        due("23 lucky() of nobody", new OneFromEachLane().lucky(), -9);
    }

    private static void away24() {
        OneFromEachLane x = told("cc0001;cc0020;");
        due("24 away()", x.away(), 1);
        due("24 all are there", x.count(0), 2);
        due("24 away() of several", told("cc0000;cc0000;").away(), 0);
        due("24 away() of one", told("cc0020;").away(), 0);
        due("24 away() none", new OneFromEachLane().away(), -9);
    }

    private static void wider25() {
        due("25 wider()", told("cc0000;ck0000;cp0000;cs0000;cl0000;ct0000;").wider(), 5);
        due("25 a pusher behind a wave", told("ct0000;cp0100;w9;").wider(), 1);
        due("25 wider() of nobody", new OneFromEachLane().wider(), 0);
    }

    private static void gap26() {
        OneFromEachLane x = told("cc0000;cc0000;cs0000;cs0000;");
        due("26 gap(0)", x.gap(0), 3);
        due("26 gap(1)", x.gap(1), 1);
        OneFromEachLane wave = told("cc0000;cc0000;cc0100;w9;");
        due("26 gap(0) by a wave", wave.gap(0), 11);
        due("26 gap(1) by a wave", wave.gap(1), 1);
        OneFromEachLane two = told("cc0000;cl0000;cc0000;");
        due("26 gap(0) behind the first", two.gap(0), 4);
        due("26 gap(1) behind the first", two.gap(1), 0);
        OneFromEachLane alike = told("cc0000;cc0000;cc0000;");
        due("26 gap(1) of several", alike.gap(1), 0);
        OneFromEachLane one = told("cl0000;");
        due("26 gap(0) of one", one.gap(0), 0);
        due("26 gap(1) of one", one.gap(1), -9);
        due("26 gap(2)", x.gap(2), -2);
        due("26 gap(-1)", x.gap(-1), -2);
        dueRefusals("26", x, 0, 2, 0, 0, 0);
    }

    private static void even27() {
        OneFromEachLane x = told("cc0000;cc0100;w7;");
        due("27 even(0)", x.even(0), 0);
        due("27 even(4)", x.even(4), 0);
        due("27 even(5)", x.even(5), 1);
        due("27 even(13)", x.even(13), 9);
        due("27 even(14)", x.even(14), -9);
        due("27 even(99)", x.even(99), -9);
        due("27 the wave stays", x.count(4), 7);
        due("27 even(100)", x.even(100), -6);
        due("27 even(-1)", x.even(-1), -4);
        dueRefusals("27", x, 0, 0, 0, 1, 1);
    }

    private static void keep28() {
        OneFromEachLane x = told("cc0000;cc0000;cc0000;");
        int[] bits = {7, 7, 3, 3, 1, 1, 0, 0};
        int[] howMany = {3, 3, 2, 2, 1, 1, 0, 0};
        for (int v = 0; v < bits.length; v++) {
            due("28 keep(" + v + ", 0)", x.keep(v, 0), bits[v]);
            due("28 keep(" + v + ", 1)", x.keep(v, 1), howMany[v]);
        }
        due("28 the slow one alone", told("cc0000;cc0000;cl0000;").keep(4, 0), 4);
        due("28 all are there", x.count(0), 3);
        due("28 keep(99, 0)", x.keep(99, 0), 0);
        due("28 keep(100, 2)", x.keep(100, 2), -6);
        due("28 keep(-1, 2)", x.keep(-1, 2), -4);
        due("28 keep(0, 2)", x.keep(0, 2), -2);
        due("28 keep(0, -1)", x.keep(0, -1), -2);
        dueRefusals("28", x, 0, 2, 0, 1, 1);
    }

    private static void who29() {
        OneFromEachLane x = told("cc3000;cc0100;");
        due("29 who(0, 0) by nothing", x.who(0, 0), 63);
        due("29 who(0, 1) by nothing", x.who(0, 1), 1023);
        x.row(1);
        due("29 who(0, 0)", x.who(0, 0), 34);
        due("29 who(0, 1) of no kind one", x.who(0, 1), 0);
        due("29 who(1, 0)", x.who(1, 0), 0);
        due("29 the row stays", x.count(7), 1);
        due("29 the kind stays", x.car(0, 0), 0);
        x.row(0);
        due("29 who(0, 0) of all turns", x.who(0, 0), 34);
        x.row(0);
        due("29 who(0, 0) beyond", x.who(0, 0), 0);
        due("29 who(2, 2)", x.who(2, 2), -1);
        due("29 who(-1, 0)", x.who(-1, 0), -1);
        due("29 who(0, 2)", x.who(0, 2), -2);
        due("29 who(0, -1)", x.who(0, -1), -2);
        dueRefusals("29", x, 2, 2, 0, 0, 0);
        OneFromEachLane kind = told("ck0000;cc0100;cc0100;");
        kind.row(1);
        due("29 who(0, 1)", kind.who(0, 1), 1022);
        kind.row(0);
        due("29 who(0, 1) lets in one", kind.who(0, 1), 2);
    }

    private static void row30() {
        OneFromEachLane x = new OneFromEachLane();
        due("30 row(-1)", x.row(-1), -4);
        due("30 row(100)", x.row(100), -6);
        due("30 row(0)", x.row(0), 1);
        for (int i = 2; i <= 12; i++) {
            due("30 row(99) the " + i + ".", x.row(99), i);
        }
        due("30 row(0) the 13.", x.row(0), -6);
        due("30 row(-1) when full", x.row(-1), -4);
        due("30 count(7)", x.count(7), 12);
        dueRefusals("30", x, 0, 0, 0, 2, 2);
    }

    private static void judge31() {
        OneFromEachLane x = told("cc0000;cc0100;");
        due("31 judge() of nothing", x.judge(), -9);
        x.row(0);
        due("31 judge() of one", x.judge(), -9);
        due("31 the row has none", x.count(7), 0);
        x.row(0);
        x.row(1);
        x.row(0);
        due("31 judge() beyond", x.judge(), 2);
        x.row(1);
        x.row(0);
        due("31 judge()", x.judge(), 0);
        due("31 the row has none then", x.count(7), 0);
        x.row(0);
        x.row(99);
        due("31 judge() no such car", x.judge(), 1);
    }

    private static void clear32() {
        OneFromEachLane x = told("cc0000;");
        due("32 clear() of nothing", x.clear(), 0);
        x.row(4);
        x.row(5);
        due("32 clear()", x.clear(), 2);
        due("32 count(7)", x.count(7), 0);
        due("32 judge()", x.judge(), -9);
        due("32 the cars stay", x.count(0), 1);
    }

    private static void lots33() {
        OneFromEachLane one = told("cl0105;");
        due("33 lots(20, 1, 0)", one.lots(20, 1, 0), 80);
        due("33 lots(20, 1, 1)", one.lots(20, 1, 1), 400);
        // From 0 the draws are 1 (1013904223 by 256: 3960563) and 1 (1196435762 by 256: 4673577).
        OneFromEachLane x = told("cc0001;cc0010;");
        due("33 lots(1, 0, 0)", x.lots(1, 0, 0), 4);
        due("33 lots(1, 0, 1)", x.lots(1, 0, 1), 42);
        // From 5 they are 1 (1022226848: 3993073), 0 (-1150683009, without its sign's bit 996800639: 3893752),
        // 1 (1043999698: 4078123), 1 (-631580407, so 1515903241: 5921497).
        due("33 lots(1, 5, 0)", x.lots(1, 5, 0), 5);
        due("33 lots(1, 5, 1)", x.lots(1, 5, 1), 25);
        due("33 lots(2, 5, 0)", x.lots(2, 5, 0), 9);
        due("33 lots(2, 5, 1)", x.lots(2, 5, 1), 67);
        due("33 the lane stays", x.car(0, 2), 0);
        due("33 lots(0, 0, 2)", x.lots(0, 0, 2), -4);
        due("33 lots(21, 0, 2)", x.lots(21, 0, 2), -6);
        due("33 lots(1, 0, 2)", x.lots(1, 0, 2), -2);
        due("33 lots(1, 0, -1)", x.lots(1, 0, -1), -2);
        due("33 lots(20, 0, 0) of nobody", new OneFromEachLane().lots(20, 0, 0), 0);
        dueRefusals("33", x, 0, 2, 0, 1, 1);
    }

    private static void image34() {
        OneFromEachLane x = new OneFromEachLane();
        due("34 image() of nobody", x.image(), 0);
        tell(x, "cc0000;cc0100;");
        due("34 on() takes them away", x.on(), 0);
        tell(x, "cc0000;cc0100;");
        due("34 image()", x.image(), 2);
        x.goOver(0);
        due("34 on() from the newer one", x.on(), 2);
        due("34 the lane as then", x.car(0, 2), 0);
    }

    private static void on35() {
        OneFromEachLane x = told("ck7004;cc0105;cc0006;b1;w3;");
        due("35 on() without an image", x.on(), -3);
        x.image();
        tell(x, "x01;f2;o1;b2;w0;cp0000;");
        x.hurry(0, 9);
        x.row(5);
        x.letter('b');
        x.row(-1);
        due("35 on()", x.on(), 3);
        due("35 kind", x.car(0, 0), 1);
        due("35 figure", x.car(0, 1), 7);
        due("35 hurry", x.car(0, 3), 4);
        due("35 lane", x.car(1, 2), 1);
        due("35 place", x.car(2, 4), 1);
        due("35 board", x.count(3), 1);
        due("35 wave", x.count(4), 3);
        due("35 the row stays", x.count(7), 1);
        due("35 the letters stay", x.count(8), 1);
        x.goOver(2);
        due("35 on() once more", x.on(), 3);
        due("35 lane as then", x.car(2, 2), 0);
        dueRefusals("35", x, 0, 0, 1, 1, 0);
    }

    private static void count36() {
        OneFromEachLane x = told("cc0010;cc0105;cp0003;cl0100;cs0120;b2;w4;");
        x.row(0);
        x.letter(0);
        x.letter(0);
        int[] counts = {5, 2, 3, 2, 4, 38, 12, 1, 2, -9, -9};
        for (int what = 0; what < counts.length; what++) {
            due("36 count(" + what + ")", x.count(what), counts[what]);
        }
        due("36 count(-1)", x.count(-1), -9);
        due("36 count(17)", x.count(17), -9);
        due("36 count(least)", x.count(Integer.MIN_VALUE), -9);
        due("36 count(greatest)", x.count(Integer.MAX_VALUE), -9);
        x.order(9);
        x.sums(9);
        x.on();
        x.row(-1);
        x.row(100);
        x.row(100);
        dueRefusals("36", x, 1, 1, 1, 1, 2);
    }

    public static void main(String[] args) {
        newObject1();
        letter2();
        road3();
        car4();
        hurry5();
        goOver6();
        standFirst7();
        set8();
        order9();
        of10();
        sums11();
        queue12();
        bestBoard13();
        over14();
        first15();
        lets16();
        spoil17();
        mend18();
        loses19();
        byWhom20();
        two21();
        fair22();
        lucky23();
        away24();
        wider25();
        gap26();
        even27();
        keep28();
        who29();
        row30();
        judge31();
        clear32();
        lots33();
        image34();
        on35();
        count36();
        end();
    }
}
