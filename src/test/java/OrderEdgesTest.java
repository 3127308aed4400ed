import java.math.BigInteger;

/**
 * The edges of ORDER and of what would be otherwise: nobody, one and nine cars; alike and just less or more than
 * now; of several the least; the -9 of each; waves, DRAWS and bounds. By hand, by promise.
 */
public final class OrderEdgesTest extends Check {
    private static final String NINE_RIGHT = "cc0000;".repeat(9);
    /** By board 1 they go 0, 5, 1, 6, 2, 7, 3, 8, 4, with all waves that there can be. */
    private static final String NINE_LORRIES = "cl0120;".repeat(5) + "cl0020;".repeat(4) + "b1;w9;";

    private static void nobody() {
        OneFromEachLane x = new OneFromEachLane();
        due("9 order(0)", x.order(0), -1);
        for (int what = 0; what <= 4; what++) {
            due("11 sums(" + what + ")", x.sums(what), 0);
        }
        due("12 queue(0, 0)", x.queue(0, 0), 0);
        due("12 queue(1, 0)", x.queue(1, 0), 0);
        due("12 queue(0, 1)", x.queue(0, 1), -6);
        due("13 bestBoard()", x.bestBoard(), 0);
        for (int what = 0; what <= 1; what++) {
            due("14 over(" + what + ")", x.over(what), -9);
            due("15 first(" + what + ")", x.first(what), -9);
            due("17 spoil(" + what + ")", x.spoil(what), -9);
            due("18 mend(" + what + ")", x.mend(what), -9);
            due("26 gap(" + what + ")", x.gap(what), -9 * what);
            due("28 keep(0, " + what + ")", x.keep(0, what), 0);
            due("28 keep(99, " + what + ")", x.keep(99, what), 0);
            due("33 lots(1, 5, " + what + ")", x.lots(1, 5, what), 0);
            due("33 lots(20, 5, " + what + ")", x.lots(20, 5, what), 0);
        }
        due("16 lets()", x.lets(), -9);
        due("19 loses(0, 1)", x.loses(0, 1), 1000000001);
        due("22 fair()", x.fair(), 0);
        due("23 lucky()", x.lucky(), -9);
        due("24 away()", x.away(), -9);
        due("25 wider()", x.wider(), 0);
        due("27 even(0)", x.even(0), 0);
        due("27 even(1)", x.even(1), -9);
        due("27 even(99)", x.even(99), -9);
    }

    private static void oneCar() {
        for (String road : new String[] {"cc0005;w9;b2;", "cc0105;w9;b2;"}) {
            OneFromEachLane x = told(road);
            dueOrder("9 one", x, 0);
            due("10 no wave ahead of the first", x.of(0, 0), 2);
            due("10 the first turn", x.of(0, 1), 0);
            int[] sums = {2, 2, 10, 0, 1};
            for (int what = 0; what <= 4; what++) {
                due("11 sums(" + what + ") of one", x.sums(what), sums[what]);
            }
            due("13 all boards alike", x.bestBoard(), 0);
            due("14 the other lane is no better", x.over(0), -9);
            due("14 the other lane is no better", x.over(1), -9);
            due("15 it is first", x.first(0), -9);
            due("15 it is first", x.first(1), -9);
            due("16 lets() of one", x.lets(), -9);
            due("17 spoil(0) of one", x.spoil(0), -9);
            due("18 mend(0) of one", x.mend(0), -9);
            due("20 nobody else", x.byWhom(0), -9);
            due("22 fair() of one", x.fair(), 0);
            due("23 lucky() of one", x.lucky(), -9);
            due("24 the only one", x.away(), 0);
            due("26 gap(0) of one", x.gap(0), 0);
            due("26 gap(1) of one", x.gap(1), -9);
            due("27 no wave in it", x.even(3), -9);
            due("27 by none", x.even(2), 0);
        }
    }

    private static void turns9() {
        dueOrder("9 none left", told("cc0000;cp0000;cc0000;b2;"), 0, 1, 2);
        dueOrder("9 none right", told("cc0100;cp0100;cc0100;b2;"), 0, 1, 2);
        dueOrder("9 nine of a lane", told(NINE_RIGHT), 0, 1, 2, 3, 4, 5, 6, 7, 8);
        dueOrder("9 nine", told(NINE_LORRIES), 0, 5, 1, 6, 2, 7, 3, 8, 4);
        dueOrder("9 the rest of the left", told("cs0000;cc0100;cp0100;cp0100;"), 0, 1, 2, 3);
        dueOrder("9 the rest of the right", told("ct0000;cc0000;cp0000;cc0100;"), 3, 0, 1, 2);
        dueOrder("9 by lanes as they stand", told("cc0100;cc0100;cc0000;cc0000;f1;f3;"), 3, 2, 1, 0);
    }

    private static void letting9() {
        dueOrder("9 figure 0 lets none in", told("ck0000;cc0100;"), 0, 1);
        dueOrder("9 figure 1 lets one in", told("ck1000;cc0100;cc0100;"), 1, 0, 2);
        dueOrder("9 figure 3 lets three in", told("ck3000;" + "cc0100;".repeat(5)), 1, 2, 3, 0, 4, 5);
        dueOrder("9 as many as there are", told("ck8000;" + "cc0100;".repeat(8)), 1, 2, 3, 4, 5, 6, 7, 8, 0);
        dueOrder("9 more than there are", told("ck9000;" + "cc0100;".repeat(8)), 1, 2, 3, 4, 5, 6, 7, 8, 0);
        dueOrder("9 one less than there are", told("ck7000;" + "cc0100;".repeat(8)), 1, 2, 3, 4, 5, 6, 7, 0, 8);
        dueOrder("9 each right one lets in anew", told("ck2000;ct0000;" + "cc0100;".repeat(4)), 2, 3, 0, 4, 1, 5);
        dueOrder("9 the left one is not asked", told("cc0000;cc0000;ck9100;"), 0, 1, 2);
        dueOrder("9 a straddler lets none in", told("cs0000;cc0100;b2;"), 0, 1);
        dueOrder("9 a lorry lets in by the board", told("cl0000;" + "cc0100;".repeat(3) + "b2;"), 1, 2, 0, 3);
        dueOrder("9 a pusher lets in one less", told("cp0000;cc0100;cc0100;b2;"), 1, 0, 2);
        dueOrder("9 a pusher lets in none", told("cp0000;cc0100;cc0100;b1;"), 0, 1, 2);
        dueOrder("9 a turn-taker lets in one", told("ct0000;cc0100;cc0100;b0;"), 1, 0, 2);
        dueOrder("9 a turn-taker lets in one by board 2", told("ct0000;cc0100;cc0100;b2;"), 1, 0, 2);
    }

    private static void pushing9() {
        dueOrder("9 nobody was last", told("cs0000;cp0100;"), 0, 1);
        dueOrder("9 the last was right", told("cs0000;cs0000;cp0100;"), 0, 1, 2);
        dueOrder("9 the last was left", told("ck1000;cc0100;cp0100;"), 1, 2, 0);
        dueOrder("9 the last was a pusher let in", told("ck1000;cp0100;cp0100;"), 1, 2, 0);
        dueOrder("9 the last pushed in", told("ck1000;cc0100;cp0100;cp0100;"), 1, 2, 0, 3);
        dueOrder("9 no pusher", told("ck1000;cp0100;cc0100;"), 1, 0, 2);
        dueOrder("9 a pusher behind no pusher", told("ck1000;cc0100;cc0100;cp0100;"), 1, 0, 2, 3);
        dueOrder("9 the right one between them", told("ck1000;cs0000;cp0100;cp0100;cp0100;"), 2, 3, 0, 1, 4);
        dueOrder("9 in anew behind another let in", told("ct0000;ct0000;" + "cp0100;".repeat(5)), 2, 3, 0, 4, 5, 1, 6);
        dueOrder("9 no right one pushes", told("cp0000;cp0000;cp0000;cc0100;cc0100;"), 0, 1, 2, 3, 4);
    }

    private static void sums10And11() {
        OneFromEachLane lorries = told(NINE_LORRIES);
        // 4, and 4 and 9 for each of the eight behind the first.
        due("10 the first waits", lorries.of(0, 0), 4);
        due("10 the last waits", lorries.of(4, 0), 108);
        due("10 the last turn", lorries.of(4, 1), 8);
        due("10 the second turn", lorries.of(5, 1), 1);
        // The waits are 4, 17, .. 108: together 9 times 56.
        int[] most = {108, 504, 10080, 8, 1};
        for (int what = 0; what <= 4; what++) {
            due("11 sums(" + what + ") of nine by waves", lorries.sums(what), most[what]);
        }
        int[] lane = {18, 90, 0, 0, 9};
        for (int what = 0; what <= 4; what++) {
            due("11 sums(" + what + ") of nine of a lane", told(NINE_RIGHT + "w9;").sums(what), lane[what]);
        }
        due("11 no wave in a lane", told("cc0100;cc0100;w9;").sums(0), 4);
        due("11 a wave between lanes", told("cc0100;cc0000;w9;").sums(0), 13);
        due("11 the least wave", told("cc0100;cc0000;w0;").sums(0), 4);
        due("11 the first change", told("cc0000;cc0100;").sums(3), 1);
        due("11 the longest run is the first", told("ck3000;ct0000;cc0100;cc0100;cc0100;cc0100;").sums(4), 3);
        due("11 the longest run is the last", told("cs0000;cc0100;cc0100;").sums(4), 2);
        due("11 the longest run is in the middle", told("ct0000;cs0000;cs0000;cc0100;cc0100;").sums(4), 3);
    }

    private static void queue12() {
        OneFromEachLane x = told(NINE_LORRIES);
        int[] right = {4, 4, 3, 3, 2, 2, 1, 1, 0, 0};
        int[] left = {5, 4, 4, 3, 3, 2, 2, 1, 1, 0};
        for (int n = 0; n <= 9; n++) {
            due("12 queue(0, " + n + ")", x.queue(0, n), right[n]);
            due("12 queue(1, " + n + ")", x.queue(1, n), left[n]);
        }
        due("12 queue(0, 10)", x.queue(0, 10), -6);
        OneFromEachLane lane = told(NINE_RIGHT);
        due("12 the most", lane.queue(0, 0), 9);
        due("12 none", lane.queue(1, 0), 0);
        due("12 behind all", lane.queue(0, 9), 0);
    }

    private static void bestBoard13() {
        // COST by board 0, 1, 2: 140, 80, 100.
        due("13 board 1 alone", told("cc0120;cc0100;cc0010;cc0000;w0;").bestBoard(), 1);
        // 200, 160, 120.
        due("13 board 2 alone", told("cc0000;cc0120;cc0120;w0;").bestBoard(), 2);
        due("13 board 0 alone", told("cc0020;cc0100;b2;").bestBoard(), 0);
        // There is but one to be let in.
        due("13 boards 1 and 2 alike", told("cl0000;cc0120;").bestBoard(), 1);
        // A pusher lets none in by 0 and by 1.
        due("13 boards 0 and 1 alike", told("cp0020;cc0100;b2;").bestBoard(), 0);
        due("13 boards 0 and 1 alike, 2 less", told("cp0000;cc0120;").bestBoard(), 2);
        due("13 all boards alike", told("ct0020;cc0120;b2;").bestBoard(), 0);
        due("13 no hurry", told("cc0000;cc0100;b1;").bestBoard(), 0);
        // 4 5 7: 80 and 105; 1 5 7: 100 and 105; 1 3 7: 45 and 140.
        due("13 boards 0 and 2 alike, 1 more", told("cp0100;cc0115;cl0020;b1;w0;").bestBoard(), 0);
    }

    private static void over14() {
        OneFromEachLane alike = told("cc0000;cc0105;w0;");
        // 0 over: 1, 0: 1 waits 2 instead of 4.
        due("14 over(0) without waves", alike.over(0), 0);
        due("14 over(1) without waves", alike.over(1), 10);
        due("14 no hurry, nothing less", told("cc0000;cc0100;").over(0), -9);
        // Whichever goes over: one waits 2 and the other 4.
        due("14 alike is not less", told("cc0005;cc0005;w0;").over(0), -9);
        due("14 alike is not less, its cost", told("cc0005;cc0005;w0;").over(1), -9);
        due("14 a wave more is not less", told("cc0105;cc0105;").over(0), -9);
        // 8 waits 27 behind eight right ones and a wave; over it waits 18; any other over: 25.
        OneFromEachLane last = told("cc0000;".repeat(8) + "cc0120;w9;");
        due("14 over(0) the last number", last.over(0), 8);
        due("14 over(1) of it", last.over(1), 360);
        // By wave 1 8 waits 19, over 18; any other over: 17.
        OneFromEachLane several = told("cc0000;".repeat(8) + "cc0120;w1;");
        due("14 over(0) of eight alike", several.over(0), 0);
        due("14 over(1) of eight alike", several.over(1), 340);
    }

    private static void first15() {
        OneFromEachLane last = told("cc0000;".repeat(8) + "cc0020;");
        due("15 first(0) the last number", last.first(0), 8);
        due("15 first(1) of it", last.first(1), 40);
        OneFromEachLane left = told("cc0100;cc0120;");
        due("15 first(0) of the left", left.first(0), 1);
        due("15 first(1) of the left", left.first(1), 40);
        due("15 alike is not less", told("cc0005;cc0005;").first(0), -9);
        due("15 no hurry, nothing less", told("cc0000;cc0000;").first(0), -9);
        // Now 20 and 30; with either first 10 and 30.
        due("15 of several the least", told("cc0000;cc0005;cc0005;").first(0), 1);
        due("15 the better one behind", told("cc0000;cc0005;cc0006;").first(0), 2);
        due("15 of the other lane nobody", told("cc0020;cc0100;").first(0), -9);
    }

    private static void lets16() {
        // By board 2 the left one goes first; letting none in, 0 waits 2 instead of 5.
        due("16 the least car and the least figure", told("cc0020;cc0100;b2;").lets(), 0);
        due("16 figure 0 is alike", told("cc0020;cc0100;b0;").lets(), -9);
        // Eight in a hurry go ahead of the last number: with 8 let in all go first, with 9 likewise.
        due("16 the last car, the greatest figure", told("cc0120;".repeat(8) + "cs0000;").lets(), 88);
        // The eighth is in no hurry, so that 8 goes ahead of it.
        due("16 seven of eight", told("cc0120;".repeat(7) + "cc0100;cs0005;w0;").lets(), 87);
        due("16 a better figure", told("ck0000;cc0120;").lets(), 1);
        due("16 its own figure is alike", told("ck1000;cc0120;").lets(), -9);
        // Either lorry as a kind one saves 2 seconds of 2's.
        due("16 of several cars the least", told("cl0000;cl0000;cc0001;").lets(), 0);
        due("16 a left one is not asked: figure 0", told("cl0120;").lets(), 0);
    }

    private static void spoil17() {
        // By board 2 two go ahead of 0, two ahead of 1: 3 changes. If 0 lets in one: 4 changes, 1 second less.
        String road = "cc0000;cc0000;cc0100;cc0100;cc0100;cc0100;b2;";
        due("17 no more than now by wave 0", told(road + "w0;").spoil(0), -9);
        due("17 as much as now by wave 1", told(road + "w1;").spoil(0), -9);
        due("17 one more by wave 2", told(road + "w2;").spoil(0), 1);
        due("17 how many by wave 1", told(road + "w1;").spoil(1), -9);
        due("17 how many by wave 2", told(road + "w2;").spoil(1), 1);
        // 8 goes behind two, the turn-takers behind one each: 5 changes; if 8 lets in but one: 7.
        String last = "cc0100;".repeat(4) + "ct0000;".repeat(4) + "cc0000;b2;w9;f8;";
        due("17 the last number alone", told(last).spoil(0), 256);
        due("17 how many is one", told(last).spoil(1), 1);
        // 4 and 5 go behind two each; either as a pusher makes one change more.
        due("17 of several the least bits", told("cc0100;".repeat(4) + "cc0000;".repeat(2) + "b2;w9;").spoil(0), 16);
        due("17 pushers already", told("cp0000;cp0000;cp0100;cp0100;b2;w9;").spoil(0), -9);
    }

    private static void mend18() {
        // Letting one in, 8 makes it wait 2 instead of 4; a left one as a turn-taker is alike.
        String last = "cc0120;" + "cc0100;".repeat(7) + "cc0000;w0;";
        due("18 the last number alone", told(last).mend(0), 256);
        due("18 how many is one", told(last).mend(1), 1);
        due("18 the only one", told("cl0020;").mend(0), 1);
        due("18 how many of one", told("cl0020;").mend(1), 1);
        due("18 alike is not less", told("cc0010;cc0110;w0;").mend(0), -9);
        due("18 a little less", told("cc0010;cc0111;w0;").mend(0), 1);
        due("18 turn-takers already", told("ct0000;ct0020;ct0120;").mend(0), -9);
        // Now 0 and 2 are let in: 19, 2 and 56. If 1 lets in but one, 2 still pushes in; if 2 does not push, it is
        // slower; both: 0 at 1, 1 at 3, 2 at 5: 19, 42 and 5. If 0 does not push, all are slower.
        OneFromEachLane pair = told("cp0119;ck2014;cp0101;w0;");
        due("18 two of them at least", pair.mend(0), 6);
        due("18 how many are two", pair.mend(1), 2);
        due("18 of several the least bits", told("cl0000;cl0000;cc0001;").mend(0), 1);
        dueAllMend18();
    }

    private static void dueAllMend18() {
        // Now 0 and 1 wait 4 and 7: 152. With 0 a turn-taker 5 and 8: 178; 1: 4 and 9: 184; 2: as now;
        // 0 and 1: 5 and 7: 162; 0 and 2: 4 and 7: 152; 1 and 2: 4 and 8: 168; all: 4 and 6: 136.
        OneFromEachLane x = told("cl0010;cs0016;cs0100;w0;");
        due("18 cost now", x.sums(2), 152);
        due("18 only all together", x.mend(0), 7);
        due("18 how many of all", x.mend(1), 3);
    }

    private static void loses19() {
        OneFromEachLane x = told("ck0000;cl0100;ct0000;w9;");
        // 0 at 2; 1 let in at 15; 2 at 26. Without 1: 2 at 4.
        due("19 two waves more", x.loses(2, 1), 22);
        due("19 by one behind it", x.loses(0, 2), 0);
        due("19 by the first", x.loses(1, 0), 11);
        // Without 2 the left one still goes second.
        due("19 by one that let it in", x.loses(1, 2), 0);
        OneFromEachLane kind = told("ck1000;cs0000;cc0100;");
        // Now 2 goes first, at 2; without 0 it goes behind 1: at 3 and 1 and 2.
        due("19 below 0", kind.loses(2, 0), -4);
        due("19 by a wave", kind.loses(0, 2), 3);
        OneFromEachLane nine = told(NINE_RIGHT);
        due("19 the last by the first", nine.loses(8, 0), 2);
        due("19 the last by the one ahead", nine.loses(8, 7), 2);
        due("19 the first by the last", nine.loses(0, 8), 0);
        due("19 beyond the last", nine.loses(9, 0), 1000000001);
        due("19 beyond the last, the other", nine.loses(0, 9), 1000000001);
        dueRefusals("19", nine, 2, 0, 0, 0, 0);
    }

    private static void byWhom20() {
        OneFromEachLane nine = told(NINE_RIGHT);
        due("20 of eight alike, for the last", nine.byWhom(8), 0);
        due("20 of eight that are no loss", nine.byWhom(0), 1);
        due("20 beyond the last", nine.byWhom(9), -1);
        due("20 the last number", told("cp0000;".repeat(7) + "cc0000;cl0000;f8;").byWhom(7), 8);
        due("20 the only other, below 0", told("ck1000;cc0100;").byWhom(1), 0);
        // By 0 that lets it in 2 loses -4, by 1 nothing.
        due("20 none is more than below 0", told("ck1000;cs0000;cc0100;").byWhom(2), 1);
        due("20 of a pair alike", told("cc0000;cl0000;cl0000;cc0000;").byWhom(3), 1);
    }

    private static void two21() {
        // 0 right and 1 either way: 2 and 4; 0 left and 1 right: 4 and 2.
        due("21 alike for the other", told("cc0000;cc0000;w0;").two(0, 1), 0);
        // In any pair 0 goes first, for 1 lets it in, and 1 next.
        OneFromEachLane alike = told("cc0000;ct0000;w0;");
        due("21 alike for both in all pairs", alike.two(0, 1), 0);
        // Both in one lane: 1, 0, so that 0 goes over; in two lanes: 0, 1, so that 1 goes over.
        due("21 no pair, if the other is told first", alike.two(1, 0), -9);
        due("21 no pair", told("ct0000;cc0000;").two(0, 1), -9);
        // One of them right lets the other in; both left: no wave.
        due("21 both left", told("cc0000;cc0100;b1;").two(0, 1), 11);
        due("21 the first left", told("ct0000;cc0000;cc0000;").two(1, 2), 10);
        due("21 the other left", told("cc0100;ct0000;cc0000;").two(2, 1), 1);
        // Both right 6, 8; 1 left 6, 9; 0 left, pushing in, 5, 8; both left 5, 7.
        due("21 both left, by pushing", told("cp0000;ck1100;cl0100;b2;").two(0, 1), 11);
        // The turn-taker lets in one: a second one of the left would wait for a wave more.
        due("21 the first left by waves", told("ct0000;cc0000;cc0000;cc0000;w9;").two(2, 3), 10);
        due("21 from wherever they stood", told("ct0000;cc0000;cc0000;cc0000;w9;f2;o3;f3;").two(2, 3), 10);
        due("21 from wherever they stood, both left", told("ct0000;cc0000;cc0000;cc0000;w9;o3;o2;").two(2, 3), 10);
        OneFromEachLane nine = told(NINE_RIGHT);
        due("21 the last numbers", nine.two(8, 7), 0);
        due("21 beyond the last", nine.two(8, 9), -1);
    }

    private static void fairAndLucky22And23() {
        OneFromEachLane turned = told(NINE_RIGHT + "f0;f1;f2;f3;f4;f5;f6;f7;f8;");
        due("22 the most", turned.fair(), 36);
        due("23 the last number", turned.lucky(), 8);
        OneFromEachLane asTheyCame = told(NINE_RIGHT);
        due("22 as they came", asTheyCame.fair(), 0);
        due("23 as they came", asTheyCame.lucky(), -9);
        due("23 asked first", told("cc0000;cc0000;f1;").lucky(), 1);
        due("23 asked first, none", told("cc0000;cc0000;").lucky(), -9);
        OneFromEachLane one = told(NINE_RIGHT + "f1;");
        due("22 once", one.fair(), 1);
        due("23 the least that can be", one.lucky(), 1);
        // 1 and 3 each go ahead of one that came ahead.
        OneFromEachLane alike = told("cc0000;cc0100;cc0000;cc0100;b1;");
        dueOrder("22", alike, 1, 0, 3, 2);
        due("22 twice", alike.fair(), 2);
        due("23 of several the least", alike.lucky(), 1);
        // 2 goes ahead of 0 and 1, 1 ahead of 0.
        OneFromEachLane most = told("cc0000;cc0000;cc0000;f1;f2;");
        due("22 three times", most.fair(), 3);
        due("23 the most counts, not the first", most.lucky(), 2);
    }

    private static void away24() {
        due("24 the last number", told("cc0000;".repeat(8) + "cl0020;").away(), 8);
        due("24 of nine alike the least", told(NINE_RIGHT).away(), 0);
        due("24 all in a hurry: the first", told("cc0005;cc0005;cc0005;").away(), 0);
        due("24 the one with the hurry", told("cc0000;cc0000;cc0020;").away(), 2);
        // Without 0: 40 and 80; without 1 or 2: 40 and 120.
        due("24 the cost of the others counts", told("cl0010;cc0020;cc0020;").away(), 0);
        due("24 of two", told("cc0001;cc0002;").away(), 1);
    }

    private static void wider25() {
        due("25 nine that are slower", told(NINE_LORRIES).wider(), 9);
        due("25 nine at the least", told("cp0000;".repeat(9)).wider(), 0);
        due("25 one of two", told("cp0000;cs0000;").wider(), 1);
        String[] kinds = {"c", "k", "p", "s", "l", "t"};
        int[] less = {1, 1, 0, 1, 1, 1};
        for (int i = 0; i < kinds.length; i++) {
            due("25 a " + kinds[i], told("c" + kinds[i] + "0000;").wider(), less[i]);
        }
        due("25 the wave stays as it is", told("cp0000;cp0100;w9;").wider(), 0);
    }

    private static void gap26() {
        OneFromEachLane lorries = told(NINE_LORRIES);
        due("26 the greatest that can be", lorries.gap(0), 13);
        due("26 the first of several", lorries.gap(1), 0);
        OneFromEachLane last = told("cp0000;".repeat(8) + "cc0000;");
        due("26 the last pair", last.gap(0), 2);
        due("26 behind the last turn but one", last.gap(1), 7);
        OneFromEachLane least = told("cl0000;cp0000;");
        due("26 the least that can be", least.gap(0), 1);
        due("26 two", least.gap(1), 0);
        OneFromEachLane middle = told("cc0000;cc0000;cl0000;cc0000;cl0000;");
        due("26 in the middle", middle.gap(0), 4);
        due("26 the first of two alike", middle.gap(1), 1);
    }

    private static void even27() {
        OneFromEachLane lorries = told(NINE_LORRIES);
        // 36 seconds and 8 changes.
        int[] least = {0, 0, 1, 1, 2, 7, 8, 8};
        int[] v = {0, 36, 37, 44, 45, 92, 93, 99};
        for (int i = 0; i < v.length; i++) {
            due("27 even(" + v[i] + ")", lorries.even(v[i]), least[i]);
        }
        OneFromEachLane two = told("cc0000;cc0100;w0;");
        due("27 the greatest wave", two.even(13), 9);
        due("27 one more", two.even(14), -9);
        due("27 one less", two.even(12), 8);
        due("27 without a change", told(NINE_RIGHT).even(18), 0);
        due("27 without a change, one more", told(NINE_RIGHT).even(19), -9);
        due("27 the wave stays", two.count(4), 0);
    }

    private static void keep28() {
        OneFromEachLane lorries = told(NINE_LORRIES);
        // Without 0: 1, 5, 2, 6, 3, 7, 4, 8: 32 and 7 waves, 95.
        due("28 the greatest", lorries.keep(99, 0), 1);
        due("28 how many", lorries.keep(99, 1), 1);
        due("28 nobody waits so short", lorries.keep(3, 0), 511);
        due("28 all of them", lorries.keep(3, 1), 9);
        due("28 the last one alone", lorries.keep(4, 0), 255);
        due("28 all but one", lorries.keep(4, 1), 8);
        due("28 the least", lorries.keep(0, 0), 511);
        OneFromEachLane lane = told(NINE_RIGHT);
        due("28 as long as they wait", lane.keep(18, 0), 0);
        due("28 none of them", lane.keep(18, 1), 0);
        due("28 one less", lane.keep(17, 0), 1);
        due("28 just one less", lane.keep(16, 0), 1);
        due("28 two", lane.keep(15, 0), 3);
        due("28 the last number", told("cp0000;".repeat(8) + "cl0000;").keep(8, 0), 256);
        due("28 fewest ahead of least", told("cp0000;cp0000;cl0000;").keep(2, 1), 1);
        due("28 it is the slow one", told("cp0000;cp0000;cl0000;").keep(2, 0), 4);
        due("28 the cars stay", lane.count(0), 9);
    }

    private static void who29() {
        OneFromEachLane nine = told("ck3000;" + "cc0100;".repeat(8));
        due("29 by no row", nine.who(8, 0), 63);
        due("29 by no row", nine.who(8, 1), 1023);
        tellRow(nine, 1, 2, 3, 4, 5, 6, 7, 8);
        due("29 eight let in", nine.who(0, 1), 256 + 512);
        due("29 a kind one alone lets in so many", nine.who(0, 0), 0);
        due("29 the row stays", nine.count(7), 8);
        nine.row(0);
        due("29 all turns", nine.who(0, 1), 256 + 512);
        nine.row(0);
        due("29 beyond the turns", nine.who(0, 1), 0);
        due("29 the row stays", nine.clear(), 10);
        tellRow(nine, 1, 2, 3, 4, 5, 6, 7, 0);
        due("29 seven let in", nine.who(0, 1), 128);
        nine.clear();
        tellRow(nine, 0, 1);
        due("29 none let in", nine.who(0, 1), 1);
        due("29 kinds that let none in by board 0", nine.who(0, 0), 1 + 4 + 8 + 16);
        nine.set(0, 1);
        due("29 kinds that let none in by board 1", nine.who(0, 0), 4 + 8);
        nine.clear();
        tellRow(nine, 1, 2, 3, 0);
        due("29 as it is", nine.who(0, 0), 2);
        due("29 figure 3", nine.who(0, 1), 8);
        dueRefusals("29", nine, 0, 0, 0, 0, 0);
    }

    private static void whoElse29() {
        OneFromEachLane push = told("ct0000;cc0100;cc0100;");
        tellRow(push, 1, 2, 0);
        due("29 by pushing", push.who(2, 0), 4);
        due("29 no pusher by any figure", push.who(2, 1), 0);
        push.clear();
        tellRow(push, 1, 0);
        due("29 all but by pushing", push.who(2, 0), 63 - 4);
        due("29 the figure of no kind one", push.who(2, 1), 1023);
        push.clear();
        tellRow(push, 99);
        due("29 no such car went", push.who(0, 0), 0);
        push.clear();
        tellRow(push, 1, 0, 2, 0, 0, 0, 0, 0, 0, 0, 0, 0);
        due("29 the most numbers", push.who(0, 0), 0);
    }

    /** The lane that each DRAW tells, reckoned without an int's overflow. */
    private static int[] drawn(int z, int howMany) {
        BigInteger whole = BigInteger.ONE.shiftLeft(32);
        BigInteger seed = BigInteger.valueOf(z).mod(whole);
        int[] lanes = new int[howMany];
        for (int i = 0; i < howMany; i++) {
            seed = seed.multiply(BigInteger.valueOf(1664525)).add(BigInteger.valueOf(1013904223)).mod(whole);
            lanes[i] = seed.mod(BigInteger.ONE.shiftLeft(31)).divide(BigInteger.valueOf(256)).intValue() % 2;
        }
        return lanes;
    }

    /** Straddlers let none in: the right ones go by their numbers, then the left ones, 3 seconds each. */
    private static int straddlersByLot(int cars, int n, int z, boolean wantsCost) {
        int[] lanes = drawn(z, n * cars);
        int sum = 0;
        for (int road = 0; road < n; road++) {
            int seconds = 0;
            int last = -1;
            for (int lane = 0; lane <= 1; lane++) {
                for (int car = 0; car < cars; car++) {
                    if (lanes[road * cars + car] == lane) {
                        seconds += 3 + (last == 1 - lane ? 9 : 0);
                        last = lane;
                        sum += wantsCost ? seconds * (car + 1) : 0;
                    }
                }
            }
            sum += wantsCost ? 0 : seconds;
        }
        return sum;
    }

    private static void lots33() {
        int[] seeds = {0, 1, -1, 7, 255, 256, LOWEST, HIGHEST, LOWEST + 1, 1013904223, -1013904223, 20261118};
        for (int cars : new int[] {1, 2, 9}) {
            StringBuilder road = new StringBuilder("w9;b2;");
            for (int car = 0; car < cars; car++) {
                road.append("cs0").append(car % 2).append("0").append(car + 1).append(";");
            }
            OneFromEachLane x = told(road.toString());
            x.standFirst(cars - 1);
            for (int z : seeds) {
                for (int n : new int[] {1, 2, 19, 20}) {
                    String name = "33 lots(" + n + ", " + z + ", .) of " + cars;
                    due(name + " seconds", x.lots(n, z, 0), straddlersByLot(cars, n, z, false));
                    due(name + " cost", x.lots(n, z, 1), straddlersByLot(cars, n, z, true));
                }
            }
            due("33 the place stays", x.car(cars - 1, 4), 0);
            due("33 the lane stays", x.car(cars - 1, 2), (cars - 1) % 2);
        }
        // By board and figures as they are: the lot's roads are driven as any other.
        OneFromEachLane kind = told("ct0000;ct0020;b0;w0;");
        // From 5 the draws are 1, 0, 1, 1 (see PromisesTest): 0 is let in ahead of 1; then both left.
        due("33 a turn-taker lets in", kind.lots(1, 5, 1), 80);
        due("33 two roads", kind.lots(2, 5, 1), 160);
    }

    /** An object is used for 512 calls: the last one still answers as the first. */
    private static void manyCalls() {
        OneFromEachLane x = told(NINE_LORRIES.substring(0, 63), "b1;w9;");
        for (int call = 72; call < 512; call++) {
            due("9 the call " + call, x.order(call % 9), call % 9 % 2 == 0 ? call % 9 / 2 : 5 + call % 9 / 2);
        }
        due("11 the 512th call", x.sums(0), 108);
    }

    public static void main(String[] args) {
        nobody();
        oneCar();
        turns9();
        letting9();
        pushing9();
        sums10And11();
        queue12();
        bestBoard13();
        over14();
        first15();
        lets16();
        spoil17();
        mend18();
        loses19();
        byWhom20();
        two21();
        fairAndLucky22And23();
        away24();
        wider25();
        gap26();
        even27();
        keep28();
        who29();
        whoElse29();
        lots33();
        manyCalls();
        end();
    }
}
