/** What the tests by hand share: roads told in letters, answers looked at, and whether a call changed anything. */
abstract class Check {
    static final int LOWEST = Integer.MIN_VALUE;
    static final int HIGHEST = Integer.MAX_VALUE;
    /** A road of as many letters, and statements, as there can be. */
    static final String FULL_OF_BOARDS = "b2;".repeat(32);

    private static int wrong = 0;

    /** A call on an object. */
    interface Call {
        int on(OneFromEachLane x);
    }

    /** A call on an object with one number looked at. */
    interface CallWith {
        int on(OneFromEachLane x, int v);
    }

    static void due(String call, int got, int want) {
        if (got != want) {
            wrong++;
            System.out.println(call + " answered " + got + ", due is " + want);
        }
    }

    static void fault(String what) {
        wrong++;
        System.out.println(what);
    }

    /** Ends the test: with exit code 1 if an answer was not as due. */
    static void end() {
        System.out.println(wrong == 0 ? "all answers are as due" : wrong + " answers are not as due");
        if (wrong != 0) {
            System.exit(1);
        }
    }

    static void spell(OneFromEachLane x, String text) {
        for (int i = 0; i < text.length(); i++) {
            x.letter(text.charAt(i));
        }
    }

    static int tell(OneFromEachLane x, String text) {
        spell(x, text);
        return x.road();
    }

    /** A new object to which the road was told; a text beyond 96 letters comes as several roads. */
    static OneFromEachLane told(String... roads) {
        OneFromEachLane x = new OneFromEachLane();
        for (String road : roads) {
            if (tell(x, road) < 0) {
                fault("refused the road " + road);
            }
        }
        return x;
    }

    static void tellRow(OneFromEachLane x, int... numbers) {
        for (int number : numbers) {
            x.row(number);
        }
    }

    static void dueOrder(String name, OneFromEachLane x, int... cars) {
        for (int turn = 0; turn < cars.length; turn++) {
            due(name + " order(" + turn + ")", x.order(turn), cars[turn]);
        }
        due(name + " order(behind the last)", x.order(cars.length), -1);
    }

    /** The places of the cars told by their numbers, from the first one of the lane on. */
    static void dueLane(String name, OneFromEachLane x, int lane, int... cars) {
        due(name + " how many in lane " + lane, x.count(1 + lane), cars.length);
        for (int place = 0; place < cars.length; place++) {
            due(name + " lane of " + cars[place], x.car(cars[place], 2), lane);
            due(name + " place of " + cars[place], x.car(cars[place], 4), place);
        }
    }

    static void dueRefusals(String name, OneFromEachLane x, int nobody, int other, int state, int below, int room) {
        due(name + " count(11)", x.count(11), nobody);
        due(name + " count(12)", x.count(12), other);
        due(name + " count(13)", x.count(13), state);
        due(name + " count(14)", x.count(14), below);
        due(name + " count(15)", x.count(15), 0);
        due(name + " count(16)", x.count(16), room);
    }

    /**
     * Objects with nothing, with something, and with all that there can be in them. Some and full have a row that
     * judge() looks through to its end, letters that become a road, and an image from which there was a change,
     * so that what a call changes of any of them is seen.
     */
    enum Made {
        NONE(0, 0, 0), SOME(3, 2, 6), FULL(9, 12, 96);

        final int cars;
        final int inRow;
        final int letters;

        Made(int cars, int inRow, int letters) {
            this.cars = cars;
            this.inRow = inRow;
            this.letters = letters;
        }

        OneFromEachLane make() {
            switch (this) {
                case SOME:
                    return some();
                case FULL:
                    return full();
                default:
                    return new OneFromEachLane();
            }
        }

        /** Right 2, 0; left 1; they go 1, 2, 0. */
        private static OneFromEachLane some() {
            OneFromEachLane x = told("ck1010;cp0105;cc0003;b1;w4;");
            x.image();
            x.standFirst(2);
            x.hurry(1, 7);
            x.set(1, 6);
            tellRow(x, 1, 2);
            spell(x, "b2;o0;");
            return x;
        }

        /** Right 0, 2, 4, 6; left 1, 3, 5, 7, 8; they go 1, 0, 2, 3, 4, 5, 6, 7, 8. */
        private static OneFromEachLane full() {
            OneFromEachLane x = told("cc0010;ck1105;cp0003;cs0100;cl0002;ct0120;cc0007;ck2100;cp0101;");
            x.image();
            x.hurry(3, 9);
            x.set(0, 1);
            tellRow(x, 1, 0, 2, 3, 4, 5, 6, 7, 8, 99, 99, 99);
            spell(x, FULL_OF_BOARDS);
            return x;
        }
    }

    /** Whether both are alike in all that can be asked; it takes their rows, letters and changes away. */
    static void dueAlike(String name, OneFromEachLane x, OneFromEachLane twin) {
        dueAlikeCars(name, x, twin);
        due(name + ", then judge()", x.judge(), twin.judge());
        due(name + ", then road()", x.road(), twin.road());
        dueAlikeCars(name + ", then road()", x, twin);
        due(name + ", then on()", x.on(), twin.on());
        dueAlikeCars(name + ", then on()", x, twin);
    }

    private static void dueAlikeCars(String name, OneFromEachLane x, OneFromEachLane twin) {
        for (int what = 0; what <= 8; what++) {
            due(name + ", then count(" + what + ")", x.count(what), twin.count(what));
        }
        int cars = twin.count(0);
        for (int car = 0; car < cars; car++) {
            for (int what = 0; what <= 6; what++) {
                due(name + ", then car(" + car + ", " + what + ")", x.car(car, what), twin.car(car, what));
            }
        }
    }

    /** The call is refused with that number, which is counted, once, and nothing else changes. */
    static void refuses(String call, Made made, Call it, int refusal) {
        int answer = call.contains("loses") ? 1000000000 - refusal : refusal;
        String name = call + " with " + made;
        OneFromEachLane x = made.make();
        OneFromEachLane twin = made.make();
        due(name, it.on(x), answer);
        due(name + " again", it.on(x), answer);
        for (int number = 1; number <= 6; number++) {
            int more = number == -refusal ? 2 : 0;
            due(name + ", then count(1" + number + ")", x.count(10 + number), twin.count(10 + number) + more);
        }
        dueAlike(name, x, twin);
    }

    /** The call is not refused. */
    static void takes(String call, Made made, Call it) {
        String name = call + " with " + made;
        OneFromEachLane x = made.make();
        it.on(x);
        dueRefusals(name, x, 0, 0, 0, 0, 0);
    }

    /** The call is not refused and changes nothing. */
    static void changesNothing(String call, Made made, Call it) {
        String name = call + " with " + made;
        OneFromEachLane x = made.make();
        OneFromEachLane twin = made.make();
        int answer = it.on(x);
        due(name + " again", it.on(x), answer);
        dueRefusals(name, x, 0, 0, 0, 0, 0);
        dueAlike(name, x, twin);
    }
}
