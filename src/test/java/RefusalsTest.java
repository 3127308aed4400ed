/**
 * The REFUSALS of each promise: the last number that is taken and the first that is refused, on either side;
 * the answer, that it was counted and that nothing else changed; which of two grounds counts; and that calls
 * which only ask change nothing. Each case is on new objects with nothing, something and all in them.
 */
public final class RefusalsTest extends Check {
    private static final int NOBODY = -1;
    private static final int OTHER = -2;
    private static final int STATE = -3;
    private static final int BELOW = -4;
    private static final int ROOM = -6;

    /** The first numbers beyond either side, and the farthest. */
    private static int[] outside(int least, int greatest) {
        return new int[] {least - 1, greatest + 1, LOWEST, HIGHEST};
    }

    /** Numbers outside are refused for that ground, in each object; the least and the greatest are taken. */
    private static void looksAt(String call, Made made, int least, int greatest, int refusal, CallWith it) {
        for (int v : outside(least, greatest)) {
            refuses(call + " of " + v, made, x -> it.on(x, v), refusal);
        }
        if (least <= greatest) {
            takes(call + " of " + least, made, x -> it.on(x, least));
            takes(call + " of " + greatest, made, x -> it.on(x, greatest));
        }
    }

    /** Cars that there are not are refused as NOBODY, whatever else is wrong. */
    private static void looksAtCar(String call, CallWith it) {
        for (Made made : Made.values()) {
            looksAt(call, made, 0, made.cars - 1, NOBODY, it);
        }
    }

    private static void firstIsNobody(String call, CallWith it) {
        for (Made made : Made.values()) {
            for (int car : outside(0, made.cars - 1)) {
                refuses(call + " of " + car, made, x -> it.on(x, car), NOBODY);
            }
        }
    }

    private static void looksAtWhat(String call, int greatest, CallWith it) {
        for (Made made : Made.values()) {
            looksAt(call, made, 0, greatest, OTHER, it);
        }
    }

    private static void looksAtWhatOfACar(String call, int greatest, CallWith it) {
        looksAt(call, Made.SOME, 0, greatest, OTHER, it);
        looksAt(call, Made.FULL, 0, greatest, OTHER, it);
    }

    /** Numbers below the least are refused as BELOW, above the greatest as ROOM. */
    private static void looksAtNumber(String call, Made made, int least, int greatest, CallWith it) {
        for (int v : new int[] {least - 1, LOWEST}) {
            refuses(call + " of " + v, made, x -> it.on(x, v), BELOW);
        }
        for (int v : new int[] {greatest + 1, HIGHEST}) {
            refuses(call + " of " + v, made, x -> it.on(x, v), ROOM);
        }
        takes(call + " of " + least, made, x -> it.on(x, least));
        takes(call + " of " + greatest, made, x -> it.on(x, greatest));
    }

    private static void looksAtNumber(String call, int least, int greatest, CallWith it) {
        for (Made made : Made.values()) {
            looksAtNumber(call, made, least, greatest, it);
        }
    }

    private static void letter2() {
        looksAtNumber("2 letter(v)", Made.NONE, 0, 255, (x, v) -> x.letter(v));
        looksAtNumber("2 letter(v)", Made.SOME, 0, 255, (x, v) -> x.letter(v));
        for (int v : new int[] {0, 255, 256, HIGHEST}) {
            refuses("2 letter(" + v + "), no room", Made.FULL, x -> x.letter(v), ROOM);
        }
        for (int v : new int[] {-1, LOWEST}) {
            refuses("2 letter(" + v + "), no room: below is told first", Made.FULL, x -> x.letter(v), BELOW);
        }
    }

    private static void car4() {
        looksAtCar("4 car(v, 0)", (x, v) -> x.car(v, 0));
        firstIsNobody("4 car(v, -1)", (x, v) -> x.car(v, -1));
        firstIsNobody("4 car(v, 7)", (x, v) -> x.car(v, 7));
        looksAtWhatOfACar("4 car(0, v)", 6, (x, v) -> x.car(0, v));
    }

    private static void hurry5() {
        looksAtCar("5 hurry(v, 3)", (x, v) -> x.hurry(v, 3));
        firstIsNobody("5 hurry(v, -1)", (x, v) -> x.hurry(v, -1));
        firstIsNobody("5 hurry(v, 21)", (x, v) -> x.hurry(v, 21));
        looksAtNumber("5 hurry(2, v)", Made.SOME, 0, 20, (x, v) -> x.hurry(2, v));
        looksAtNumber("5 hurry(8, v)", Made.FULL, 0, 20, (x, v) -> x.hurry(8, v));
    }

    private static void moves6And7() {
        looksAtCar("6 goOver(v)", OneFromEachLane::goOver);
        looksAtCar("7 standFirst(v)", OneFromEachLane::standFirst);
    }

    private static void set8() {
        looksAtWhat("8 set(v, 0)", 1, (x, v) -> x.set(v, 0));
        for (int what : outside(0, 1)) {
            for (int v : new int[] {-1, 3, 10}) {
                refuses("8 set(" + what + ", " + v + ")", Made.SOME, x -> x.set(what, v), OTHER);
            }
        }
        looksAtNumber("8 set(0, v)", 0, 2, (x, v) -> x.set(0, v));
        looksAtNumber("8 set(1, v)", 0, 9, (x, v) -> x.set(1, v));
    }

    private static void turns9And10() {
        looksAtCar("9 order(v)", OneFromEachLane::order);
        looksAtCar("10 of(v, 0)", (x, v) -> x.of(v, 0));
        looksAtCar("10 of(v, 1)", (x, v) -> x.of(v, 1));
        firstIsNobody("10 of(v, -1)", (x, v) -> x.of(v, -1));
        firstIsNobody("10 of(v, 2)", (x, v) -> x.of(v, 2));
        looksAtWhatOfACar("10 of(0, v)", 1, (x, v) -> x.of(0, v));
    }

    private static void sums11() {
        looksAtWhat("11 sums(v)", 4, OneFromEachLane::sums);
    }

    private static void queue12() {
        for (Made made : Made.values()) {
            looksAt("12 queue(v, 0)", made, 0, 1, NOBODY, (x, v) -> x.queue(v, 0));
            for (int lane : outside(0, 1)) {
                for (int n : new int[] {-1, made.cars + 1}) {
                    refuses("12 queue(" + lane + ", " + n + ")", made, x -> x.queue(lane, n), NOBODY);
                }
            }
            looksAtNumber("12 queue(0, v)", made, 0, made.cars, (x, v) -> x.queue(0, v));
            looksAtNumber("12 queue(1, v)", made, 0, made.cars, (x, v) -> x.queue(1, v));
        }
    }

    private static void whats14To18And26() {
        looksAtWhat("14 over(v)", 1, OneFromEachLane::over);
        looksAtWhat("15 first(v)", 1, OneFromEachLane::first);
        looksAtWhat("17 spoil(v)", 1, OneFromEachLane::spoil);
        looksAtWhat("18 mend(v)", 1, OneFromEachLane::mend);
        looksAtWhat("26 gap(v)", 1, OneFromEachLane::gap);
    }

    /** For calls with two cars: either may be nobody, or both the same. */
    private static void twoCars(String call, CallWith first, CallWith other, Call same) {
        firstIsNobody(call + " the first", first);
        firstIsNobody(call + " the other", other);
        refuses(call + " of one twice", Made.SOME, same, NOBODY);
        refuses(call + " of one twice", Made.FULL, same, NOBODY);
        refuses(call + " of one twice", Made.NONE, same, NOBODY);
    }

    private static void loses19() {
        twoCars("19 loses", (x, v) -> x.loses(v, 0), (x, v) -> x.loses(0, v), x -> x.loses(0, 0));
        refuses("19 loses of nobody twice", Made.FULL, x -> x.loses(9, 9), NOBODY);
        refuses("19 loses of the last one twice", Made.FULL, x -> x.loses(8, 8), NOBODY);
        takes("19 loses(0, 2)", Made.SOME, x -> x.loses(0, 2));
        takes("19 loses(2, 0)", Made.SOME, x -> x.loses(2, 0));
        takes("19 loses(0, 8)", Made.FULL, x -> x.loses(0, 8));
        takes("19 loses(8, 0)", Made.FULL, x -> x.loses(8, 0));
    }

    private static void byWhom20() {
        looksAtCar("20 byWhom(v)", OneFromEachLane::byWhom);
    }

    private static void two21() {
        twoCars("21 two", (x, v) -> x.two(v, 0), (x, v) -> x.two(0, v), x -> x.two(0, 0));
        refuses("21 two of nobody twice", Made.FULL, x -> x.two(-1, -1), NOBODY);
        refuses("21 two of the last one twice", Made.FULL, x -> x.two(8, 8), NOBODY);
        takes("21 two(0, 2)", Made.SOME, x -> x.two(0, 2));
        takes("21 two(2, 0)", Made.SOME, x -> x.two(2, 0));
        takes("21 two(0, 8)", Made.FULL, x -> x.two(0, 8));
        takes("21 two(8, 0)", Made.FULL, x -> x.two(8, 0));
    }

    private static void even27() {
        looksAtNumber("27 even(v)", 0, 99, OneFromEachLane::even);
    }

    private static void keep28() {
        looksAtNumber("28 keep(v, 0)", 0, 99, (x, v) -> x.keep(v, 0));
        looksAtNumber("28 keep(v, 1)", 0, 99, (x, v) -> x.keep(v, 1));
        looksAtWhat("28 keep(5, v)", 1, (x, v) -> x.keep(5, v));
        for (int what : outside(0, 1)) {
            refuses("28 keep(-1, " + what + ")", Made.SOME, x -> x.keep(-1, what), BELOW);
            refuses("28 keep(100, " + what + ")", Made.SOME, x -> x.keep(100, what), ROOM);
        }
    }

    private static void who29() {
        looksAtCar("29 who(v, 0)", (x, v) -> x.who(v, 0));
        looksAtCar("29 who(v, 1)", (x, v) -> x.who(v, 1));
        firstIsNobody("29 who(v, -1)", (x, v) -> x.who(v, -1));
        firstIsNobody("29 who(v, 2)", (x, v) -> x.who(v, 2));
        looksAtWhatOfACar("29 who(0, v)", 1, (x, v) -> x.who(0, v));
    }

    private static void row30() {
        looksAtNumber("30 row(v)", Made.NONE, 0, 99, OneFromEachLane::row);
        looksAtNumber("30 row(v)", Made.SOME, 0, 99, OneFromEachLane::row);
        for (int v : new int[] {0, 99, 100, HIGHEST}) {
            refuses("30 row(" + v + "), no room", Made.FULL, x -> x.row(v), ROOM);
        }
        for (int v : new int[] {-1, LOWEST}) {
            refuses("30 row(" + v + "), no room: below is told first", Made.FULL, x -> x.row(v), BELOW);
        }
    }

    private static void lots33() {
        for (int z : new int[] {0, -1, LOWEST, HIGHEST}) {
            looksAtNumber("33 lots(v, " + z + ", 0)", 1, 20, (x, v) -> x.lots(v, z, 0));
            looksAtWhat("33 lots(20, " + z + ", v)", 1, (x, v) -> x.lots(20, z, v));
        }
        for (int what : outside(0, 1)) {
            refuses("33 lots(0, 7, " + what + ")", Made.SOME, x -> x.lots(0, 7, what), BELOW);
            refuses("33 lots(21, 7, " + what + ")", Made.SOME, x -> x.lots(21, 7, what), ROOM);
        }
    }

    private static void on35() {
        refuses("35 on() without an image", Made.NONE, x -> x.on(), STATE);
        takes("35 on()", Made.SOME, x -> x.on());
        takes("35 on()", Made.FULL, x -> x.on());
        OneFromEachLane x = told("cc0101;b2;w3;");
        due("35 on() with a car, without an image", x.on(), STATE);
        due("35 the car stays", x.count(0), 1);
        due("35 the board stays", x.count(3), 2);
        due("35 the wave stays", x.count(4), 3);
        dueRefusals("35", x, 0, 0, 1, 0, 0);
    }

    /** Another what is told as -9, which is no refusal. */
    private static void count36() {
        for (Made made : Made.values()) {
            for (int what : new int[] {-1, 9, 10, 17, LOWEST, HIGHEST, -9, -16}) {
                changesNothing("36 count(" + what + ")", made, x -> x.count(what));
                due("36 count(" + what + ") with " + made, made.make().count(what), -9);
            }
        }
    }

    /** Calls that can't be refused. */
    private static void taken() {
        for (Made made : Made.values()) {
            takes("3 road()", made, x -> x.road());
            takes("31 judge()", made, x -> x.judge());
            takes("32 clear()", made, x -> x.clear());
            takes("34 image()", made, x -> x.image());
        }
    }

    private static void asking() {
        for (Made made : Made.values()) {
            changesNothing("13 bestBoard()", made, x -> x.bestBoard());
            changesNothing("16 lets()", made, x -> x.lets());
            changesNothing("22 fair()", made, x -> x.fair());
            changesNothing("23 lucky()", made, x -> x.lucky());
            changesNothing("24 away()", made, x -> x.away());
            changesNothing("25 wider()", made, x -> x.wider());
            for (int v : new int[] {0, 1}) {
                changesNothing("11 sums(" + v + ")", made, x -> x.sums(v));
                changesNothing("12 queue(" + v + ", 0)", made, x -> x.queue(v, 0));
                changesNothing("14 over(" + v + ")", made, x -> x.over(v));
                changesNothing("15 first(" + v + ")", made, x -> x.first(v));
                changesNothing("17 spoil(" + v + ")", made, x -> x.spoil(v));
                changesNothing("18 mend(" + v + ")", made, x -> x.mend(v));
                changesNothing("26 gap(" + v + ")", made, x -> x.gap(v));
                changesNothing("27 even(" + 99 * v + ")", made, x -> x.even(99 * v));
                changesNothing("28 keep(4, " + v + ")", made, x -> x.keep(4, v));
                changesNothing("33 lots(20, 9, " + v + ")", made, x -> x.lots(20, 9, v));
            }
        }
        askingOfACar(Made.SOME);
        askingOfACar(Made.FULL);
    }

    private static void askingOfACar(Made made) {
        for (int car = 0; car < made.cars; car++) {
            int it = car;
            int other = made.cars - 1 - car == car ? 0 : made.cars - 1 - car;
            changesNothing("4 car(" + it + ", 4)", made, x -> x.car(it, 4));
            changesNothing("9 order(" + it + ")", made, x -> x.order(it));
            changesNothing("10 of(" + it + ", 0)", made, x -> x.of(it, 0));
            changesNothing("19 loses(" + it + ", " + other + ")", made, x -> x.loses(it, other));
            changesNothing("20 byWhom(" + it + ")", made, x -> x.byWhom(it));
            changesNothing("21 two(" + it + ", " + other + ")", made, x -> x.two(it, other));
            changesNothing("29 who(" + it + ", 0)", made, x -> x.who(it, 0));
            changesNothing("29 who(" + it + ", 1)", made, x -> x.who(it, 1));
        }
    }

    /** Refusals are counted, each for itself, up to the last call that an object is used for. */
    private static void manyRefusals() {
        OneFromEachLane x = new OneFromEachLane();
        for (int i = 0; i < 511; i++) {
            x.row(-1);
        }
        due("36 count(14) as the 512th call", x.count(14), 511);
        OneFromEachLane each = new OneFromEachLane();
        Call[] calls = {y -> y.order(0), y -> y.sums(5), y -> y.on(), y -> y.even(-1), y -> y.even(100)};
        int[] times = {1, 2, 3, 4, 5};
        for (int i = 0; i < calls.length; i++) {
            for (int time = 0; time < times[i]; time++) {
                calls[i].on(each);
            }
        }
        dueRefusals("36 each for itself", each, 1, 2, 3, 4, 5);
    }

    public static void main(String[] args) {
        letter2();
        car4();
        hurry5();
        moves6And7();
        set8();
        turns9And10();
        sums11();
        queue12();
        whats14To18And26();
        loses19();
        byWhom20();
        two21();
        even27();
        keep28();
        who29();
        row30();
        lots33();
        on35();
        count36();
        taken();
        asking();
        manyRefusals();
        end();
    }
}
