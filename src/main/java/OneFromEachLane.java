/** Two lanes that become one: who goes through the narrow place, when, and what it costs. */
public final class OneFromEachLane {
    private static final int RIGHT = 0;
    private static final int LEFT = 1;
    private static final int LANES = 2;

    private static final int MOST_CARS = 9;
    private static final int MOST_LETTERS = 96;
    private static final int MOST_TOLD = 12;
    private static final int MOST_FIGURE = 9;
    private static final int MOST_HURRY = 20;
    private static final int MOST_BOARD = 2;
    private static final int MOST_WAVE = 9;
    private static final int MOST_NUMBER = 99;
    private static final int MOST_ROADS = 20;

    private static final int NONE = -9;
    private static final int NOBODY = -1;
    private static final int OTHER = -2;
    private static final int STATE = -3;
    private static final int BELOW = -4;
    private static final int ROOM = -6;
    private static final int KINDS_OF_REFUSALS = 6;
    private static final int REFUSED_LOSS = 1000000000;

    private final Road now = new Road();
    private final Road kept = new Road();
    private boolean isKept = false;
    private final Text text = new Text();
    private final int[] told = new int[MOST_TOLD];
    private int toldCount = 0;
    private final int[] refusals = new int[KINDS_OF_REFUSALS + 1];
    private final Road tried = new Road();
    private final Passage passage = new Passage();
    private final Changes changes = new Changes();
    private final Choices choices = new Choices();

    public OneFromEachLane() {
    }

    public int letter(int c) {
        if (c < 0) {
            return refuse(BELOW);
        }
        if (c > 255 || text.isFull()) {
            return refuse(ROOM);
        }
        return text.append(c);
    }

    public int road() {
        int answer = text.tellTo(now, tried);
        text.empty();
        return answer;
    }

    public int car(int car, int what) {
        if (!now.has(car)) {
            return refuse(NOBODY);
        }
        switch (what) {
            case 0:
                return now.kind[car];
            case 1:
                return now.figure[car];
            case 2:
                return now.lane[car];
            case 3:
                return now.hurry[car];
            case 4:
                return now.placeOf(car);
            case 5:
                return now.letsIn(car);
            case 6:
                return Kinds.secondsOf(now.kind[car]);
            default:
                return refuse(OTHER);
        }
    }

    public int hurry(int car, int v) {
        if (!now.has(car)) {
            return refuse(NOBODY);
        }
        if (v < 0) {
            return refuse(BELOW);
        }
        if (v > MOST_HURRY) {
            return refuse(ROOM);
        }
        int before = now.hurry[car];
        now.hurry[car] = v;
        return before;
    }

    public int goOver(int car) {
        if (!now.has(car)) {
            return refuse(NOBODY);
        }
        now.crossOver(car);
        return now.placeOf(car);
    }

    public int standFirst(int car) {
        if (!now.has(car)) {
            return refuse(NOBODY);
        }
        int before = now.placeOf(car);
        now.moveToFront(car);
        return before;
    }

    public int set(int what, int v) {
        if (what != 0 && what != 1) {
            return refuse(OTHER);
        }
        if (v < 0) {
            return refuse(BELOW);
        }
        int before = what == 0 ? now.board : now.wave;
        boolean isSet = what == 0 ? now.putBoard(v) : now.putWave(v);
        return isSet ? before : refuse(ROOM);
    }

    public int order(int turn) {
        // There are as many turns as cars.
        if (!now.has(turn)) {
            return refuse(NOBODY);
        }
        passage.drive(now, 0);
        return passage.order[turn];
    }

    public int of(int car, int what) {
        if (!now.has(car)) {
            return refuse(NOBODY);
        }
        if (what != 0 && what != 1) {
            return refuse(OTHER);
        }
        passage.drive(now, 0);
        return what == 0 ? passage.waitOf[car] : passage.turnOf[car];
    }

    public int sums(int what) {
        if (what < 0 || what > 4) {
            return refuse(OTHER);
        }
        passage.drive(now, 0);
        switch (what) {
            case 0:
                return passage.seconds;
            case 1:
                return passage.allWaits();
            case 2:
                return passage.cost(now);
            case 3:
                return passage.laneChanges(now);
            default:
                return passage.longestRun(now);
        }
    }

    public int queue(int lane, int n) {
        if (lane != RIGHT && lane != LEFT) {
            return refuse(NOBODY);
        }
        if (n < 0) {
            return refuse(BELOW);
        }
        if (n > now.cars) {
            return refuse(ROOM);
        }
        passage.drive(now, 0);
        return now.standing(lane) - passage.goneOf(now, lane, n);
    }

    public int bestBoard() {
        return changes.cheapestBoard(now);
    }

    public int over(int what) {
        if (what != 0 && what != 1) {
            return refuse(OTHER);
        }
        return changes.cheapestMove(now, false, what == 1);
    }

    public int first(int what) {
        if (what != 0 && what != 1) {
            return refuse(OTHER);
        }
        return changes.cheapestMove(now, true, what == 1);
    }

    public int lets() {
        return changes.cheapestKindOne(now);
    }

    public int spoil(int what) {
        if (what != 0 && what != 1) {
            return refuse(OTHER);
        }
        return bitsOrHowMany(changes.fewestTurned(now, false), what);
    }

    public int mend(int what) {
        if (what != 0 && what != 1) {
            return refuse(OTHER);
        }
        return bitsOrHowMany(changes.fewestTurned(now, true), what);
    }

    public int loses(int car, int other) {
        if (!now.areTwo(car, other)) {
            return REFUSED_LOSS - refuse(NOBODY);
        }
        return choices.loss(now, car, other);
    }

    public int byWhom(int car) {
        if (!now.has(car)) {
            return refuse(NOBODY);
        }
        return choices.greatestLossBy(now, car);
    }

    public int two(int a, int b) {
        if (!now.areTwo(a, b)) {
            return refuse(NOBODY);
        }
        return choices.steadyPair(now, a, b);
    }

    public int fair() {
        passage.drive(now, 0);
        int times = 0;
        for (int car = 0; car < now.cars; car++) {
            times += passage.overtaken(car);
        }
        return times;
    }

    public int lucky() {
        passage.drive(now, 0);
        int luckiest = NONE;
        int most = 0;
        for (int car = 0; car < now.cars; car++) {
            int times = passage.overtaken(car);
            if (times > most) {
                most = times;
                luckiest = car;
            }
        }
        return luckiest;
    }

    public int away() {
        return changes.cheapestWithout(now);
    }

    public int wider() {
        // Neither who goes when nor the waves depend on SECONDS: each car alone tells what it saves.
        int less = 0;
        for (int car = 0; car < now.cars; car++) {
            int seconds = Kinds.secondsOf(now.kind[car]);
            less += seconds - Math.max(1, seconds - 1);
        }
        return less;
    }

    public int gap(int what) {
        if (what != 0 && what != 1) {
            return refuse(OTHER);
        }
        passage.drive(now, 0);
        int greatest = 0;
        int behind = NONE;
        for (int turn = 0; turn + 1 < passage.turns; turn++) {
            int difference = passage.waitInTurn(turn + 1) - passage.waitInTurn(turn);
            if (behind == NONE || difference > greatest) {
                greatest = difference;
                behind = turn;
            }
        }
        return what == 0 ? greatest : behind;
    }

    public int even(int v) {
        if (v < 0) {
            return refuse(BELOW);
        }
        if (v > MOST_NUMBER) {
            return refuse(ROOM);
        }
        return changes.leastWave(now, v);
    }

    public int keep(int v, int what) {
        if (v < 0) {
            return refuse(BELOW);
        }
        if (v > MOST_NUMBER) {
            return refuse(ROOM);
        }
        if (what != 0 && what != 1) {
            return refuse(OTHER);
        }
        return bitsOrHowMany(changes.fewestGone(now, v), what);
    }

    public int who(int car, int what) {
        if (!now.has(car)) {
            return refuse(NOBODY);
        }
        if (what != 0 && what != 1) {
            return refuse(OTHER);
        }
        int bits = 0;
        int last = what == 0 ? Kinds.HOW_MANY - 1 : MOST_FIGURE;
        for (int value = 0; value <= last; value++) {
            tried.copyFrom(now);
            if (what == 0) {
                tried.kind[car] = value;
            } else {
                tried.figure[car] = value;
            }
            if (firstNotSo(tried) == NONE) {
                bits |= 1 << value;
            }
        }
        return bits;
    }

    public int row(int v) {
        if (v < 0) {
            return refuse(BELOW);
        }
        if (v > MOST_NUMBER || toldCount >= MOST_TOLD) {
            return refuse(ROOM);
        }
        told[toldCount] = v;
        toldCount++;
        return toldCount;
    }

    public int judge() {
        int place = firstNotSo(now);
        toldCount = 0;
        return place;
    }

    public int clear() {
        int before = toldCount;
        toldCount = 0;
        return before;
    }

    public int lots(int n, int z, int what) {
        if (n < 1) {
            return refuse(BELOW);
        }
        if (n > MOST_ROADS) {
            return refuse(ROOM);
        }
        if (what != 0 && what != 1) {
            return refuse(OTHER);
        }
        return choices.byLot(now, n, z, what == 1);
    }

    public int image() {
        kept.copyFrom(now);
        isKept = true;
        return now.cars;
    }

    public int on() {
        if (!isKept) {
            return refuse(STATE);
        }
        now.copyFrom(kept);
        return now.cars;
    }

    public int count(int what) {
        switch (what) {
            case 0:
                return now.cars;
            case 1:
                return now.standing(RIGHT);
            case 2:
                return now.standing(LEFT);
            case 3:
                return now.board;
            case 4:
                return now.wave;
            case 5:
                return now.allHurry();
            case 6:
                return now.secondsAlone();
            case 7:
                return toldCount;
            case 8:
                return text.length;
            default:
                return what > 10 && what <= 10 + KINDS_OF_REFUSALS ? refusals[what - 10] : NONE;
        }
    }

    private int refuse(int number) {
        if (number < 0 && number >= -KINDS_OF_REFUSALS) {
            refusals[-number]++;
        }
        return number;
    }

    private static int bitsOrHowMany(int bits, int what) {
        return bits == NONE || what == 0 ? bits : Integer.bitCount(bits);
    }

    private int firstNotSo(Road road) {
        passage.drive(road, 0);
        for (int turn = 0; turn < toldCount; turn++) {
            if (turn >= passage.turns || passage.order[turn] != told[turn]) {
                return turn;
            }
        }
        return NONE;
    }

    /** What a car is like by its kind; where nothing is told of a kind, it is as of the kind above it. */
    private static final class Kinds {
        static final int KIND_ONE = 1;
        static final int PUSHER = 2;
        static final int STRADDLER = 3;
        static final int LORRY = 4;
        static final int TURN_TAKER = 5;
        static final int HOW_MANY = 6;
        static final String LETTERS = "ckpslt";

        private Kinds() {
        }

        static int lettingIn(int kind, int figure, int board) {
            switch (kind) {
                case KIND_ONE:
                    return figure;
                case PUSHER:
                    return board > 0 ? board - 1 : 0;
                case STRADDLER:
                    return 0;
                case TURN_TAKER:
                    return 1;
                default:
                    return board;
            }
        }

        static int secondsOf(int kind) {
            switch (kind) {
                case PUSHER:
                    return 1;
                case STRADDLER:
                    return 3;
                case LORRY:
                    return 4;
                default:
                    return 2;
            }
        }

        static boolean isPushing(int kind) {
            return kind == PUSHER;
        }
    }

    /** The cars as they stand, the board and the wave. */
    private static final class Road {
        int cars = 0;
        int board = 0;
        int wave = 1;
        final int[] kind = new int[MOST_CARS];
        final int[] figure = new int[MOST_CARS];
        final int[] lane = new int[MOST_CARS];
        final int[] hurry = new int[MOST_CARS];
        // One line for both lanes: each lane is what the line has of it, so that
        // whoever goes to an end of its lane goes to that end of the line.
        final int[] line = new int[MOST_CARS];

        boolean has(int car) {
            return car >= 0 && car < cars;
        }

        boolean areTwo(int car, int other) {
            return has(car) && has(other) && car != other;
        }

        void copyFrom(Road other) {
            cars = other.cars;
            board = other.board;
            wave = other.wave;
            for (int car = 0; car < cars; car++) {
                kind[car] = other.kind[car];
                figure[car] = other.figure[car];
                lane[car] = other.lane[car];
                hurry[car] = other.hurry[car];
                line[car] = other.line[car];
            }
        }

        // What changes the road answers whether it could; if not, the road is as it was.

        boolean add(int newKind, int newFigure, int newLane, int newHurry) {
            if (cars >= MOST_CARS || newLane < 0 || newLane >= LANES || newHurry < 0 || newHurry > MOST_HURRY) {
                return false;
            }
            kind[cars] = newKind;
            figure[cars] = newFigure;
            lane[cars] = newLane;
            hurry[cars] = newHurry;
            line[cars] = cars;
            cars++;
            return true;
        }

        boolean putBoard(int newBoard) {
            if (newBoard < 0 || newBoard > MOST_BOARD) {
                return false;
            }
            board = newBoard;
            return true;
        }

        boolean putWave(int newWave) {
            if (newWave < 0 || newWave > MOST_WAVE) {
                return false;
            }
            wave = newWave;
            return true;
        }

        boolean crossOver(int car) {
            return has(car) && moveToEndOf(1 - lane[car], car);
        }

        boolean moveToEndOf(int newLane, int car) {
            if (!has(car)) {
                return false;
            }
            for (int at = lineIndex(car); at + 1 < cars; at++) {
                line[at] = line[at + 1];
            }
            line[cars - 1] = car;
            lane[car] = newLane;
            return true;
        }

        boolean moveToFront(int car) {
            if (!has(car)) {
                return false;
            }
            for (int at = lineIndex(car); at > 0; at--) {
                line[at] = line[at - 1];
            }
            line[0] = car;
            return true;
        }

        boolean exchangeKinds(int a, int b) {
            if (!areTwo(a, b)) {
                return false;
            }
            int kindOfA = kind[a];
            int figureOfA = figure[a];
            kind[a] = kind[b];
            figure[a] = figure[b];
            kind[b] = kindOfA;
            figure[b] = figureOfA;
            return true;
        }

        private int lineIndex(int car) {
            int at = 0;
            while (at + 1 < cars && line[at] != car) {
                at++;
            }
            return at;
        }

        int placeOf(int car) {
            int ahead = 0;
            int end = lineIndex(car);
            for (int at = 0; at < end; at++) {
                if (lane[line[at]] == lane[car]) {
                    ahead++;
                }
            }
            return ahead;
        }

        int letsIn(int car) {
            return Kinds.lettingIn(kind[car], figure[car], board);
        }

        int standing(int ofLane) {
            int stand = 0;
            for (int car = 0; car < cars; car++) {
                if (lane[car] == ofLane) {
                    stand++;
                }
            }
            return stand;
        }

        int allHurry() {
            int sum = 0;
            for (int car = 0; car < cars; car++) {
                sum += hurry[car];
            }
            return sum;
        }

        int secondsAlone() {
            int sum = 0;
            for (int car = 0; car < cars; car++) {
                sum += Kinds.secondsOf(kind[car]);
            }
            return sum;
        }
    }

    /** The turns of a road, one car in each, till both lanes are empty. */
    private static final class Passage {
        final int[] order = new int[MOST_CARS];
        final int[] waitOf = new int[MOST_CARS];
        final int[] turnOf = new int[MOST_CARS];
        int turns = 0;
        int seconds = 0;
        private final int[] right = new int[MOST_CARS];
        private final int[] left = new int[MOST_CARS];
        private int rights = 0;
        private int lefts = 0;
        private int rightGone = 0;
        private int leftGone = 0;
        private int letIn = 0;
        private int lastLane = -1;
        private boolean pushedIn = false;

        /** All cars of the road go through but those whose bits are set in absent. */
        void drive(Road road, int absent) {
            lineUp(road, absent);
            int all = rights + lefts;
            for (int i = 0; i < all; i++) {
                boolean isLeft = isLeftNext(road);
                int car = isLeft ? left[leftGone] : right[rightGone];
                if (isLeft) {
                    leftGone++;
                } else {
                    rightGone++;
                    letIn = 0;
                }
                goThrough(road, car);
            }
        }

        private void lineUp(Road road, int absent) {
            turns = 0;
            seconds = 0;
            rights = 0;
            lefts = 0;
            rightGone = 0;
            leftGone = 0;
            letIn = 0;
            lastLane = -1;
            pushedIn = false;
            for (int at = 0; at < road.cars; at++) {
                int car = road.line[at];
                if ((absent >> car & 1) != 0) {
                    continue;
                }
                if (road.lane[car] == RIGHT) {
                    right[rights] = car;
                    rights++;
                } else {
                    left[lefts] = car;
                    lefts++;
                }
            }
        }

        private boolean isLeftNext(Road road) {
            boolean lastPushedIn = pushedIn;
            pushedIn = false;
            if (leftGone >= lefts) {
                return false;
            }
            if (rightGone >= rights) {
                return true;
            }
            if (letIn < road.letsIn(right[rightGone])) {
                letIn++;
                return true;
            }
            pushedIn = lastLane == LEFT && !lastPushedIn && Kinds.isPushing(road.kind[left[leftGone]]);
            return pushedIn;
        }

        private void goThrough(Road road, int car) {
            int lane = road.lane[car];
            seconds += Kinds.secondsOf(road.kind[car]);
            if (turns > 0 && lane != lastLane) {
                seconds += road.wave;
            }
            lastLane = lane;
            waitOf[car] = seconds;
            turnOf[car] = turns;
            order[turns] = car;
            turns++;
        }

        int waitInTurn(int which) {
            return waitOf[order[which]];
        }

        int allWaits() {
            int sum = 0;
            for (int i = 0; i < turns; i++) {
                sum += waitInTurn(i);
            }
            return sum;
        }

        int cost(Road road) {
            int sum = 0;
            for (int i = 0; i < turns; i++) {
                sum += waitInTurn(i) * road.hurry[order[i]];
            }
            return sum;
        }

        int laneChanges(Road road) {
            int times = 0;
            for (int i = 1; i < turns; i++) {
                if (road.lane[order[i]] != road.lane[order[i - 1]]) {
                    times++;
                }
            }
            return times;
        }

        int longestRun(Road road) {
            int longest = 0;
            int run = 0;
            for (int i = 0; i < turns; i++) {
                boolean goesOn = i > 0 && road.lane[order[i]] == road.lane[order[i - 1]];
                run = goesOn ? run + 1 : 1;
                longest = Math.max(longest, run);
            }
            return longest;
        }

        int goneOf(Road road, int lane, int behind) {
            int gone = 0;
            for (int i = 0; i < behind && i < turns; i++) {
                if (road.lane[order[i]] == lane) {
                    gone++;
                }
            }
            return gone;
        }

        /** How many that came ahead of the car go behind it; all cars of the road must have gone. */
        int overtaken(int car) {
            int times = 0;
            for (int other = 0; other < car; other++) {
                if (turnOf[other] > turnOf[car]) {
                    times++;
                }
            }
            return times;
        }
    }

    /** The letters, and the statements that they tell. */
    private static final class Text {
        private static final int FORM_FAULT = -1000;
        private static final int SENSE_FAULT = -2000;

        int length = 0;
        private final int[] letters = new int[MOST_LETTERS];

        boolean isFull() {
            return length >= MOST_LETTERS;
        }

        int append(int letter) {
            if (!isFull()) {
                letters[length] = letter;
                length++;
            }
            return length;
        }

        void empty() {
            length = 0;
        }

        /** Tells all statements to the road, or none if there is a fault; draft is overwritten. */
        int tellTo(Road road, Road draft) {
            int fault = formFault();
            if (fault >= 0) {
                return FORM_FAULT - fault;
            }
            draft.copyFrom(road);
            int statements = 0;
            int next = 0;
            for (int start = 0; start < length; start++) {
                if (start == next) {
                    if (!tellStatement(start, draft)) {
                        return SENSE_FAULT - start;
                    }
                    statements++;
                    next = start + lengthOf(letters[start]);
                }
            }
            road.copyFrom(draft);
            return statements;
        }

        private int formFault() {
            int start = 0;
            for (int place = 0; place < length; place++) {
                if (!isInForm(start, place)) {
                    return place;
                }
                if (place - start == lengthOf(letterAt(start)) - 1) {
                    start = place + 1;
                }
            }
            return length > 0 && start == length ? -1 : length;
        }

        private boolean isInForm(int start, int place) {
            int head = letterAt(start);
            int letter = letterAt(place);
            if (place == start) {
                return lengthOf(head) > 0;
            }
            if (place - start == lengthOf(head) - 1) {
                return letter == ';';
            }
            if (head == 'c' && place == start + 1) {
                return kindAt(place) >= 0;
            }
            return letter >= '0' && letter <= '9';
        }

        private static int lengthOf(int head) {
            switch (head) {
                case 'c':
                    return 7;
                case 'x':
                    return 4;
                case 'b':
                case 'w':
                case 'o':
                case 'f':
                    return 3;
                default:
                    return 0;
            }
        }

        private int letterAt(int place) {
            return place >= 0 && place < length ? letters[place] : 0;
        }

        private int digitAt(int place) {
            return letterAt(place) - '0';
        }

        private int kindAt(int place) {
            return Kinds.LETTERS.indexOf((char) letterAt(place));
        }

        /** Whether the statement was as it must be; if not, the road is as it was. */
        private boolean tellStatement(int start, Road road) {
            int number = digitAt(start + 1);
            switch (letterAt(start)) {
                case 'c':
                    return tellCar(start, road);
                case 'b':
                    return road.putBoard(number);
                case 'w':
                    return road.putWave(number);
                case 'o':
                    return road.crossOver(number);
                case 'f':
                    return road.moveToFront(number);
                case 'x':
                    return road.exchangeKinds(number, digitAt(start + 2));
                default:
                    return false;
            }
        }

        private boolean tellCar(int start, Road road) {
            int hurry = 10 * digitAt(start + 4) + digitAt(start + 5);
            return road.add(kindAt(start + 1), digitAt(start + 2), digitAt(start + 3), hurry);
        }
    }

    /** What the seconds and the cost were, if something were otherwise. */
    private static final class Changes {
        private final Road tried = new Road();
        private final Passage passage = new Passage();

        private int costOf(Road road) {
            passage.drive(road, 0);
            return passage.cost(road);
        }

        int cheapestBoard(Road now) {
            int best = 0;
            int least = 0;
            tried.copyFrom(now);
            for (int board = 0; board <= MOST_BOARD; board++) {
                tried.board = board;
                int cost = costOf(tried);
                if (board == 0 || cost < least) {
                    best = board;
                    least = cost;
                }
            }
            return best;
        }

        /** The car whose move to the front, or over, saves most, or the cost with it. */
        int cheapestMove(Road now, boolean toFront, boolean wantsCost) {
            int best = NONE;
            int least = costOf(now);
            for (int car = 0; car < now.cars; car++) {
                tried.copyFrom(now);
                if (toFront) {
                    tried.moveToFront(car);
                } else {
                    tried.crossOver(car);
                }
                int cost = costOf(tried);
                if (cost < least) {
                    best = car;
                    least = cost;
                }
            }
            return best != NONE && wantsCost ? least : best;
        }

        int cheapestKindOne(Road now) {
            int best = NONE;
            int least = costOf(now);
            for (int car = 0; car < now.cars; car++) {
                tried.copyFrom(now);
                tried.kind[car] = Kinds.KIND_ONE;
                for (int figure = 0; figure <= MOST_FIGURE; figure++) {
                    tried.figure[car] = figure;
                    int cost = costOf(tried);
                    if (cost < least) {
                        best = 10 * car + figure;
                        least = cost;
                    }
                }
            }
            return best;
        }

        int cheapestWithout(Road now) {
            int best = NONE;
            int least = 0;
            for (int car = 0; car < now.cars; car++) {
                passage.drive(now, 1 << car);
                int cost = passage.cost(now);
                if (best == NONE || cost < least) {
                    best = car;
                    least = cost;
                }
            }
            return best;
        }

        int leastWave(Road now, int atLeast) {
            tried.copyFrom(now);
            for (int wave = 0; wave <= MOST_WAVE; wave++) {
                tried.wave = wave;
                passage.drive(tried, 0);
                if (passage.seconds >= atLeast) {
                    return wave;
                }
            }
            return NONE;
        }

        /** The fewest cars, in bits, that spoil or mend it as cars of another kind. */
        int fewestTurned(Road now, boolean mending) {
            int before = measured(now, mending);
            int sets = 1 << now.cars;
            for (int size = 1; size <= now.cars; size++) {
                for (int bits = 1; bits < sets; bits++) {
                    if (Integer.bitCount(bits) == size && isReached(now, bits, mending, before)) {
                        return bits;
                    }
                }
            }
            return NONE;
        }

        private int measured(Road road, boolean mending) {
            passage.drive(road, 0);
            return mending ? passage.cost(road) : passage.seconds;
        }

        private boolean isReached(Road now, int bits, boolean mending, int before) {
            int kind = mending ? Kinds.TURN_TAKER : Kinds.PUSHER;
            tried.copyFrom(now);
            for (int car = 0; car < tried.cars; car++) {
                if ((bits >> car & 1) != 0) {
                    tried.kind[car] = kind;
                }
            }
            int after = measured(tried, mending);
            return mending ? after < before : after > before;
        }

        int fewestGone(Road now, int longestWait) {
            int sets = 1 << now.cars;
            for (int size = 0; size <= now.cars; size++) {
                for (int bits = 0; bits < sets; bits++) {
                    if (Integer.bitCount(bits) == size && isWithin(now, bits, longestWait)) {
                        return bits;
                    }
                }
            }
            return sets - 1;
        }

        private boolean isWithin(Road now, int absent, int longestWait) {
            passage.drive(now, absent);
            // The last one through waits longest, all the seconds.
            return passage.seconds <= longestWait;
        }
    }

    /** Who loses by whom, which lanes two choose, and lanes by lot. */
    private static final class Choices {
        private static final int PAIRS = 4;
        private static final int WITHOUT_SIGN = 0x7fffffff;

        private final Road tried = new Road();
        private final Passage passage = new Passage();
        private final int[] waitsOfFirst = new int[PAIRS];
        private final int[] waitsOfOther = new int[PAIRS];
        private int seed = 0;

        int loss(Road now, int car, int other) {
            passage.drive(now, 0);
            int with = passage.waitOf[car];
            passage.drive(now, 1 << other);
            return with - passage.waitOf[car];
        }

        int greatestLossBy(Road now, int car) {
            int by = NONE;
            int most = 0;
            for (int other = 0; other < now.cars; other++) {
                if (other == car) {
                    continue;
                }
                int lost = loss(now, car, other);
                if (by == NONE || lost > most) {
                    by = other;
                    most = lost;
                }
            }
            return by;
        }

        /** Pairs are numbered with the first's lane as the upper bit: the other lane of one is a bit turned. */
        int steadyPair(Road now, int first, int other) {
            for (int pair = 0; pair < PAIRS; pair++) {
                tried.copyFrom(now);
                tried.moveToEndOf(pair >> 1, first);
                tried.moveToEndOf(pair & 1, other);
                passage.drive(tried, 0);
                waitsOfFirst[pair] = passage.waitOf[first];
                waitsOfOther[pair] = passage.waitOf[other];
            }
            for (int pair = 0; pair < PAIRS; pair++) {
                boolean firstStays = waitsOfFirst[pair] <= waitsOfFirst[pair ^ 2];
                boolean otherStays = waitsOfOther[pair] <= waitsOfOther[pair ^ 1];
                if (firstStays && otherStays) {
                    return 10 * (pair >> 1) + (pair & 1);
                }
            }
            return NONE;
        }

        int byLot(Road now, int roads, int z, boolean wantsCost) {
            seed = z;
            int sum = 0;
            tried.copyFrom(now);
            for (int i = 0; i < roads; i++) {
                for (int car = 0; car < tried.cars; car++) {
                    tried.moveToEndOf(drawLane(), car);
                }
                passage.drive(tried, 0);
                sum += wantsCost ? passage.cost(tried) : passage.seconds;
            }
            return sum;
        }

        private int drawLane() {
            seed = seed * 1664525 + 1013904223;
            return (seed & WITHOUT_SIGN) / 256 % LANES;
        }
    }
}
