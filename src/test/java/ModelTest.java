import java.lang.reflect.Method;
import java.util.ArrayList;
import java.util.Arrays;
import java.util.Comparator;
import java.util.HashMap;
import java.util.List;
import java.util.Map;
import java.util.function.Consumer;
import java.util.function.IntPredicate;
import java.util.function.IntUnaryOperator;
import java.util.function.ToIntFunction;
import java.util.regex.Matcher;
import java.util.regex.Pattern;
import java.util.stream.IntStream;

/** Long runs of drawn calls on the class and on a second program of the document, written another way. */
public final class ModelTest {
    private static final int RUNS = 1500;
    private static final int CALLS = 512;

    /** A kind of car as the document's tree tells it. */
    static class Car {
        int figure;
        int hurry;
        int number;

        char kind() {
            return 'c';
        }

        int lets(int board) {
            return board;
        }

        int seconds() {
            return 2;
        }

        boolean pushes() {
            return false;
        }
    }

    static class KindOne extends Car {
        @Override char kind() {
            return 'k';
        }

        @Override int lets(int board) {
            return figure;
        }
    }

    static class Pusher extends Car {
        @Override char kind() {
            return 'p';
        }

        @Override int lets(int board) {
            return Math.max(board - 1, 0);
        }

        @Override int seconds() {
            return 1;
        }

        @Override boolean pushes() {
            return true;
        }
    }

    static class Straddler extends Car {
        @Override char kind() {
            return 's';
        }

        @Override int lets(int board) {
            return 0;
        }

        @Override int seconds() {
            return 3;
        }
    }

    static class Lorry extends Straddler {
        @Override char kind() {
            return 'l';
        }

        @Override int lets(int board) {
            return board;
        }

        @Override int seconds() {
            return 4;
        }
    }

    static class TurnTaker extends Car {
        @Override char kind() {
            return 't';
        }

        @Override int lets(int board) {
            return 1;
        }
    }

    static Car make(char kind, int figure, int hurry, int number) {
        Car car = switch (kind) {
            case 'c' -> new Car();
            case 'k' -> new KindOne();
            case 'p' -> new Pusher();
            case 's' -> new Straddler();
            case 'l' -> new Lorry();
            case 't' -> new TurnTaker();
            default -> throw new IllegalArgumentException("no kind " + kind);
        };
        car.figure = figure;
        car.hurry = hurry;
        car.number = number;
        return car;
    }

    /** The two lanes, each a list; a copy shares no car. */
    static class World {
        final List<List<Car>> lanes = List.of(new ArrayList<>(), new ArrayList<>());
        int board = 0;
        int wave = 1;

        World copy() {
            World other = new World();
            other.board = board;
            other.wave = wave;
            for (int lane = 0; lane < 2; lane++) {
                for (Car car : lanes.get(lane)) {
                    other.lanes.get(lane).add(make(car.kind(), car.figure, car.hurry, car.number));
                }
            }
            return other;
        }

        World with(Consumer<World> change) {
            World other = copy();
            change.accept(other);
            return other;
        }

        int size() {
            return lanes.get(0).size() + lanes.get(1).size();
        }

        Car find(int number) {
            return lanes.stream().flatMap(List::stream).filter(c -> c.number == number).findFirst().orElseThrow();
        }

        int laneOf(int number) {
            return lanes.get(0).stream().anyMatch(c -> c.number == number) ? 0 : 1;
        }

        int placeOf(int number) {
            return lanes.get(laneOf(number)).indexOf(find(number));
        }

        Car take(int number) {
            Car car = find(number);
            lanes.get(laneOf(number)).remove(car);
            return car;
        }

        void toEnd(int number, int lane) {
            Car car = take(number);
            lanes.get(lane).add(car);
        }

        void toFront(int number) {
            int lane = laneOf(number);
            lanes.get(lane).add(0, take(number));
        }

        void becomes(int number, char kind, int figure) {
            List<Car> lane = lanes.get(laneOf(number));
            int place = placeOf(number);
            lane.set(place, make(kind, figure, lane.get(place).hurry, number));
        }

        List<Gone> drive() {
            List<Car> right = new ArrayList<>(lanes.get(0));
            List<Car> left = new ArrayList<>(lanes.get(1));
            List<Gone> gone = new ArrayList<>();
            int[] letIn = new int[9];
            int clock = 0;
            while (!right.isEmpty() || !left.isEmpty()) {
                Gone last = gone.isEmpty() ? null : gone.get(gone.size() - 1);
                Gone next = new Gone();
                if (right.isEmpty()) {
                    next.lane = 1;
                } else if (!left.isEmpty()) {
                    Car asked = right.get(0);
                    if (letIn[asked.number] < asked.lets(board)) {
                        letIn[asked.number]++;
                        next.lane = 1;
                    } else if (left.get(0).pushes() && last != null && last.lane == 1 && !last.pushedIn) {
                        next.pushedIn = true;
                        next.lane = 1;
                    }
                }
                next.car = (next.lane == 0 ? right : left).remove(0);
                clock += next.car.seconds() + (last != null && last.lane != next.lane ? wave : 0);
                next.wait = clock;
                gone.add(next);
            }
            return gone;
        }

        int seconds() {
            return drive().stream().mapToInt(g -> g.wait).max().orElse(0);
        }

        int cost() {
            return drive().stream().mapToInt(g -> g.wait * g.car.hurry).sum();
        }

        int waitOf(int number) {
            return drive().stream().filter(g -> g.car.number == number).findFirst().orElseThrow().wait;
        }

        List<Integer> order() {
            return drive().stream().map(g -> g.car.number).toList();
        }
    }

    /** One that went through. */
    static class Gone {
        Car car;
        int lane = 0;
        int wait;
        boolean pushedIn = false;
    }

    /** The second program: every call by its name. */
    static class Model {
        World now = new World();
        World image = null;
        String letters = "";
        final List<Integer> row = new ArrayList<>();
        final int[] refusals = new int[7];

        static final String KINDS = "ckpslt";
        static final Pattern ROAD = Pattern.compile("(c[ckpslt][0-9]{4};|[bwof][0-9];|x[0-9]{2};)+");
        static final Pattern STATEMENT = Pattern.compile("([cbwofx])([^;]*);");

        int refuse(int number) {
            refusals[-number]++;
            return number;
        }

        boolean lacks(int car) {
            return car < 0 || car >= now.size();
        }

        static boolean outside(int what, int most) {
            return what < 0 || what > most;
        }

        int letter(int c) {
            if (c < 0) {
                return refuse(-4);
            }
            if (c > 255 || letters.length() == 96) {
                return refuse(-6);
            }
            letters += (char) c;
            return letters.length();
        }

        int road() {
            String text = letters;
            letters = "";
            for (int end = 1; end <= text.length(); end++) {
                Matcher m = ROAD.matcher(text.substring(0, end));
                if (!m.matches() && !m.hitEnd()) {
                    return -1000 - (end - 1);
                }
            }
            if (!ROAD.matcher(text).matches()) {
                return -1000 - text.length();
            }
            World next = now.copy();
            Matcher m = STATEMENT.matcher(text);
            int statements = 0;
            while (m.find()) {
                if (!apply(next, m.group(1).charAt(0), m.group(2))) {
                    return -2000 - m.start();
                }
                statements++;
            }
            now = next;
            return statements;
        }

        static boolean apply(World world, char head, String rest) {
            int[] digits = rest.chars().map(c -> c - '0').toArray();
            int cars = world.size();
            switch (head) {
                case 'c' -> {
                    int hurry = Integer.parseInt(rest.substring(3));
                    if (digits[2] > 1 || hurry > 20 || cars == 9) {
                        return false;
                    }
                    world.lanes.get(digits[2]).add(make(rest.charAt(0), digits[1], hurry, cars));
                }
                case 'b' -> {
                    if (digits[0] > 2) {
                        return false;
                    }
                    world.board = digits[0];
                }
                case 'w' -> world.wave = digits[0];
                case 'o' -> {
                    if (digits[0] >= cars) {
                        return false;
                    }
                    world.toEnd(digits[0], 1 - world.laneOf(digits[0]));
                }
                case 'f' -> {
                    if (digits[0] >= cars) {
                        return false;
                    }
                    world.toFront(digits[0]);
                }
                default -> {
                    if (digits[0] >= cars || digits[1] >= cars || digits[0] == digits[1]) {
                        return false;
                    }
                    Car a = world.find(digits[0]);
                    Car b = world.find(digits[1]);
                    world.becomes(a.number, b.kind(), b.figure);
                    world.becomes(b.number, a.kind(), a.figure);
                }
            }
            return true;
        }

        int car(int car, int what) {
            if (lacks(car)) {
                return refuse(-1);
            }
            Car it = now.find(car);
            return switch (what) {
                case 0 -> KINDS.indexOf(it.kind());
                case 1 -> it.figure;
                case 2 -> now.laneOf(car);
                case 3 -> it.hurry;
                case 4 -> now.placeOf(car);
                case 5 -> it.lets(now.board);
                case 6 -> it.seconds();
                default -> refuse(-2);
            };
        }

        int hurry(int car, int v) {
            if (lacks(car)) {
                return refuse(-1);
            }
            if (v < 0) {
                return refuse(-4);
            }
            if (v > 20) {
                return refuse(-6);
            }
            int before = now.find(car).hurry;
            now.find(car).hurry = v;
            return before;
        }

        int goOver(int car) {
            if (lacks(car)) {
                return refuse(-1);
            }
            now.toEnd(car, 1 - now.laneOf(car));
            return now.lanes.get(now.laneOf(car)).size() - 1;
        }

        int standFirst(int car) {
            if (lacks(car)) {
                return refuse(-1);
            }
            int before = now.placeOf(car);
            now.toFront(car);
            return before;
        }

        int set(int what, int v) {
            if (outside(what, 1)) {
                return refuse(-2);
            }
            if (v < 0) {
                return refuse(-4);
            }
            if (v > (what == 0 ? 2 : 9)) {
                return refuse(-6);
            }
            int before = what == 0 ? now.board : now.wave;
            if (what == 0) {
                now.board = v;
            } else {
                now.wave = v;
            }
            return before;
        }

        int order(int turn) {
            return lacks(turn) ? refuse(-1) : now.order().get(turn);
        }

        int of(int car, int what) {
            if (lacks(car)) {
                return refuse(-1);
            }
            return switch (what) {
                case 0 -> now.waitOf(car);
                case 1 -> now.order().indexOf(car);
                default -> refuse(-2);
            };
        }

        int sums(int what) {
            List<Gone> gone = now.drive();
            switch (what) {
                case 0:
                    return now.seconds();
                case 1:
                    return gone.stream().mapToInt(g -> g.wait).sum();
                case 2:
                    return now.cost();
                case 3:
                    return (int) IntStream.range(1, gone.size())
                        .filter(i -> gone.get(i).lane != gone.get(i - 1).lane).count();
                case 4:
                    StringBuilder lanes = new StringBuilder();
                    gone.forEach(g -> lanes.append(g.lane));
                    int longest = 0;
                    for (String run : lanes.toString().split("(?<=0)(?=1)|(?<=1)(?=0)")) {
                        longest = Math.max(longest, run.length());
                    }
                    return longest;
                default:
                    return refuse(-2);
            }
        }

        int queue(int lane, int n) {
            if (outside(lane, 1)) {
                return refuse(-1);
            }
            if (n < 0) {
                return refuse(-4);
            }
            if (n > now.size()) {
                return refuse(-6);
            }
            return (int) now.drive().stream().skip(n).filter(g -> g.lane == lane).count();
        }

        /** The first of n for which the measure is least, and below a limit. */
        static int least(int n, int limit, IntUnaryOperator measure) {
            return IntStream.range(0, n).boxed().filter(i -> measure.applyAsInt(i) < limit)
                .min(Comparator.comparingInt(i -> measure.applyAsInt(i))).orElse(-9);
        }

        int bestBoard() {
            return least(3, Integer.MAX_VALUE, b -> now.with(w -> w.board = b).cost());
        }

        int costOver(int car) {
            return now.with(w -> w.toEnd(car, 1 - w.laneOf(car))).cost();
        }

        int over(int what) {
            if (outside(what, 1)) {
                return refuse(-2);
            }
            int car = least(now.size(), now.cost(), this::costOver);
            return car == -9 || what == 0 ? car : costOver(car);
        }

        int costFirst(int car) {
            return now.with(w -> w.toFront(car)).cost();
        }

        int first(int what) {
            if (outside(what, 1)) {
                return refuse(-2);
            }
            int car = least(now.size(), now.cost(), this::costFirst);
            return car == -9 || what == 0 ? car : costFirst(car);
        }

        int lets() {
            return least(10 * now.size(), now.cost(), i -> now.with(w -> w.becomes(i / 10, 'k', i % 10)).cost());
        }

        /** The fewest bits, of several the least, that do. */
        int fewest(IntPredicate does) {
            return IntStream.range(0, 1 << now.size()).filter(does).boxed()
                .min(Comparator.<Integer>comparingInt(Integer::bitCount).thenComparingInt(i -> i)).orElse(-9);
        }

        World turned(int bits, char kind) {
            return now.with(w -> IntStream.range(0, now.size()).filter(i -> (bits & 1 << i) != 0)
                .forEach(i -> w.becomes(i, kind, w.find(i).figure)));
        }

        static int bitsOrCount(int bits, int what) {
            return bits < 0 || what == 0 ? bits : Integer.bitCount(bits);
        }

        int spoil(int what) {
            if (outside(what, 1)) {
                return refuse(-2);
            }
            int before = now.seconds();
            return bitsOrCount(fewest(bits -> turned(bits, 'p').seconds() > before), what);
        }

        int mend(int what) {
            if (outside(what, 1)) {
                return refuse(-2);
            }
            int before = now.cost();
            return bitsOrCount(fewest(bits -> turned(bits, 't').cost() < before), what);
        }

        int lost(int car, int other) {
            return now.waitOf(car) - now.with(w -> w.take(other)).waitOf(car);
        }

        int loses(int car, int other) {
            return lacks(car) || lacks(other) || car == other ? 1000000000 - refuse(-1) : lost(car, other);
        }

        int byWhom(int car) {
            if (lacks(car)) {
                return refuse(-1);
            }
            return IntStream.range(0, now.size()).filter(i -> i != car).boxed()
                .min(Comparator.comparingInt(i -> -lost(car, i))).orElse(-9);
        }

        World chosen(int a, int laneA, int b, int laneB) {
            return now.with(w -> {
                w.toEnd(a, laneA);
                w.toEnd(b, laneB);
            });
        }

        int two(int a, int b) {
            if (lacks(a) || lacks(b) || a == b) {
                return refuse(-1);
            }
            for (int laneA = 0; laneA < 2; laneA++) {
                for (int laneB = 0; laneB < 2; laneB++) {
                    World both = chosen(a, laneA, b, laneB);
                    World firstMoves = chosen(a, 1 - laneA, b, laneB);
                    World otherMoves = chosen(a, laneA, b, 1 - laneB);
                    if (firstMoves.waitOf(a) >= both.waitOf(a) && otherMoves.waitOf(b) >= both.waitOf(b)) {
                        return 10 * laneA + laneB;
                    }
                }
            }
            return -9;
        }

        int passed(int car) {
            List<Integer> order = now.order();
            return (int) order.stream().skip(order.indexOf(car)).filter(other -> other < car).count();
        }

        int fair() {
            return IntStream.range(0, now.size()).map(this::passed).sum();
        }

        int lucky() {
            return least(now.size(), 0, car -> -passed(car));
        }

        int away() {
            return least(now.size(), Integer.MAX_VALUE, car -> now.with(w -> w.take(car)).cost());
        }

        int wider() {
            int less = 0;
            for (List<Car> lane : now.lanes) {
                for (Car car : lane) {
                    less += car.seconds() > 1 ? 1 : 0;
                }
            }
            return less;
        }

        int gap(int what) {
            if (outside(what, 1)) {
                return refuse(-2);
            }
            List<Gone> gone = now.drive();
            IntUnaryOperator gapBehind = i -> gone.get(i + 1).wait - gone.get(i).wait;
            int turn = least(gone.size() - 1, Integer.MAX_VALUE, i -> -gapBehind.applyAsInt(i));
            return what == 1 ? turn : turn == -9 ? 0 : gapBehind.applyAsInt(turn);
        }

        int even(int v) {
            if (v < 0) {
                return refuse(-4);
            }
            if (v > 99) {
                return refuse(-6);
            }
            return IntStream.range(0, 10).filter(i -> now.with(w -> w.wave = i).seconds() >= v).findFirst().orElse(-9);
        }

        int keep(int v, int what) {
            if (v < 0) {
                return refuse(-4);
            }
            if (v > 99) {
                return refuse(-6);
            }
            if (outside(what, 1)) {
                return refuse(-2);
            }
            return bitsOrCount(fewest(bits -> now.with(w -> IntStream.range(0, now.size())
                .filter(i -> (bits & 1 << i) != 0).forEach(w::take)).drive().stream().allMatch(g -> g.wait <= v)), what);
        }

        static boolean tells(List<Integer> row, World world) {
            List<Integer> order = world.order();
            return row.size() <= order.size() && row.equals(order.subList(0, row.size()));
        }

        int who(int car, int what) {
            if (lacks(car)) {
                return refuse(-1);
            }
            if (outside(what, 1)) {
                return refuse(-2);
            }
            Car it = now.find(car);
            int bits = 0;
            for (int i = 0; i < (what == 0 ? 6 : 10); i++) {
                int value = i;
                if (tells(row, now.with(w -> w.becomes(car, what == 0 ? KINDS.charAt(value) : it.kind(),
                    what == 0 ? it.figure : value)))) {
                    bits += 1 << i;
                }
            }
            return bits;
        }

        int row(int v) {
            if (v < 0) {
                return refuse(-4);
            }
            if (v > 99 || row.size() == 12) {
                return refuse(-6);
            }
            row.add(v);
            return row.size();
        }

        int judge() {
            int n = row.size();
            int first = IntStream.range(0, n).filter(i -> !tells(row.subList(0, i + 1), now)).findFirst().orElse(-9);
            row.clear();
            return first;
        }

        int clear() {
            int before = row.size();
            row.clear();
            return before;
        }

        int lots(int n, int z, int what) {
            if (n < 1) {
                return refuse(-4);
            }
            if (n > 20) {
                return refuse(-6);
            }
            if (outside(what, 1)) {
                return refuse(-2);
            }
            long seed = z & 0xffffffffL;
            int sum = 0;
            for (int i = 0; i < n; i++) {
                World lot = new World();
                lot.wave = now.wave;
                lot.board = now.board;
                for (int car = 0; car < now.size(); car++) {
                    seed = (seed * 1664525L + 1013904223L) % (1L << 32);
                    lot.lanes.get((int) (seed % (1L << 31) / 256 % 2)).add(now.find(car));
                }
                sum += what == 0 ? lot.seconds() : lot.cost();
            }
            return sum;
        }

        int image() {
            image = now.copy();
            return now.size();
        }

        int on() {
            if (image == null) {
                return refuse(-3);
            }
            now = image.copy();
            return now.size();
        }

        int sumOver(ToIntFunction<Car> measure) {
            return now.lanes.stream().flatMap(List::stream).mapToInt(measure).sum();
        }

        int count(int what) {
            return switch (what) {
                case 0 -> now.size();
                case 1 -> now.lanes.get(0).size();
                case 2 -> now.lanes.get(1).size();
                case 3 -> now.board;
                case 4 -> now.wave;
                case 5 -> sumOver(c -> c.hurry);
                case 6 -> sumOver(Car::seconds);
                case 7 -> row.size();
                case 8 -> letters.length();
                case 11, 12, 13, 14, 15, 16 -> refusals[what - 10];
                default -> -9;
            };
        }
    }

    private static int seed = 20261118;

    private static int draw(int below) {
        seed = seed * 1103515245 + 12345;
        return (seed >>> 8) % below;
    }

    private static final int[] EDGES = {Integer.MIN_VALUE, Integer.MIN_VALUE + 1, -1000, -2, -1, 9, 10, 11, 12, 17,
        20, 21, 32, 96, 99, 100, 255, 256, 1000, Integer.MAX_VALUE - 1, Integer.MAX_VALUE};

    /** Mostly 0 to most, at times a number beyond. */
    private static int upTo(int most) {
        return draw(20) == 0 ? EDGES[draw(EDGES.length)] : draw(most + 1);
    }

    private static String statement() {
        char kind = "ckpslt".charAt(draw(6));
        switch (draw(12)) {
            case 0:
                return "b" + draw(draw(6) == 0 ? 10 : 3) + ";";
            case 1:
                return "w" + draw(10) + ";";
            case 2:
                return "o" + draw(draw(4) == 0 ? 10 : 3) + ";";
            case 3:
                return "f" + draw(draw(4) == 0 ? 10 : 3) + ";";
            case 4:
                return "x" + draw(4) + draw(4) + ";";
            default:
                int hurry = draw(30) == 0 ? draw(100) : draw(21);
                int lane = draw(30) == 0 ? draw(10) : draw(2);
                return "c" + kind + draw(draw(2) == 0 ? 3 : 10) + lane + hurry / 10 + hurry % 10 + ";";
        }
    }

    private static String text() {
        StringBuilder text = new StringBuilder();
        int statements = 1 + draw(draw(3) == 0 ? 13 : 4);
        for (int i = 0; i < statements; i++) {
            text.append(statement());
        }
        if (draw(6) == 0) {
            text.setCharAt(draw(text.length()), "cbwofxkpslt;0129 /:".charAt(draw(19)));
        }
        if (draw(12) == 0) {
            text.setLength(draw(text.length()));
        }
        return text.toString();
    }

    private static final String[] NAMES = {"car", "hurry", "goOver", "standFirst", "set", "order", "of", "sums", "queue",
        "bestBoard", "over", "first", "lets", "spoil", "mend", "loses", "byWhom", "two", "fair", "lucky", "away", "wider",
        "gap", "even", "keep", "who", "row", "judge", "clear", "lots", "image", "on", "count", "letter", "road"};

    private static int[] arguments(String name, Model m) {
        int cars = Math.max(0, m.now.size() - 1);
        switch (name) {
            case "car":
                return new int[] {upTo(cars), upTo(6)};
            case "hurry":
                return new int[] {upTo(cars), upTo(20)};
            case "goOver": case "standFirst": case "order": case "byWhom":
                return new int[] {upTo(cars)};
            case "set":
                int what = upTo(1);
                return new int[] {what, upTo(what == 0 ? 2 : 9)};
            case "of": case "who":
                return new int[] {upTo(cars), upTo(1)};
            case "sums":
                return new int[] {upTo(4)};
            case "queue":
                return new int[] {upTo(1), upTo(m.now.size())};
            case "over": case "first": case "spoil": case "mend": case "gap":
                return new int[] {upTo(1)};
            case "loses": case "two":
                return new int[] {upTo(cars), upTo(cars)};
            case "even":
                return new int[] {upTo(draw(2) == 0 ? 99 : 40)};
            case "keep":
                return new int[] {upTo(draw(3) == 0 ? 99 : 30), upTo(1)};
            case "row":
                List<Integer> order = m.now.order();
                int n = m.row.size();
                return new int[] {n < order.size() && draw(8) > 0 ? order.get(n) : upTo(cars)};
            case "lots":
                return new int[] {draw(12) == 0 ? upTo(20) : 1 + draw(20), draw(3) == 0 ? upTo(50) : seed, upTo(1)};
            case "count":
                return new int[] {upTo(17)};
            case "letter":
                return new int[] {upTo(255)};
            default:
                return new int[0];
        }
    }

    private static final Map<String, Method> FACE = methodsOf(OneFromEachLane.class);
    private static final Map<String, Method> SECOND = methodsOf(Model.class);

    private static Map<String, Method> methodsOf(Class<?> type) {
        Map<String, Method> methods = new HashMap<>();
        for (Method method : type.getDeclaredMethods()) {
            methods.put(method.getName(), method);
        }
        return methods;
    }

    private static int call(Object target, Method method, int[] a) {
        try {
            return (Integer) method.invoke(target, Arrays.stream(a).boxed().toArray());
        } catch (ReflectiveOperationException e) {
            throw new IllegalStateException(method + Arrays.toString(a), e);
        }
    }

    private static final List<String> HISTORY = new ArrayList<>();

    /** Whether both answer alike; if not, the run is printed. */
    private static boolean agree(OneFromEachLane x, Model m, String name, int... a) {
        int want = call(m, SECOND.get(name), a);
        int got = call(x, FACE.get(name), a);
        HISTORY.add(name + Arrays.toString(a) + " -> " + want);
        if (got != want) {
            System.out.println(String.join("\n", HISTORY));
            System.out.println("the last one answered " + got);
        }
        return got == want;
    }

    private static boolean spell(OneFromEachLane x, Model m, String text) {
        boolean alike = true;
        for (int i = 0; i < text.length() && alike && HISTORY.size() < CALLS; i++) {
            alike = agree(x, m, "letter", text.charAt(i));
        }
        return alike && (HISTORY.size() >= CALLS || agree(x, m, "road"));
    }

    private static boolean run() {
        OneFromEachLane x = new OneFromEachLane();
        Model m = new Model();
        HISTORY.clear();
        boolean alike = true;
        while (alike && HISTORY.size() < CALLS) {
            int kind = draw(40);
            String name = NAMES[draw(NAMES.length)];
            if (m.now.size() < 2 + draw(9) && draw(6) == 0 || kind == 0) {
                alike = spell(x, m, text());
            } else if (m.now.size() > 0 || draw(4) == 0) {
                // Two names are drawn seldom, for they would mar most texts and roads.
                boolean seldom = name.equals("letter") || name.equals("on");
                alike = seldom && draw(6) > 0 || agree(x, m, name, arguments(name, m));
            } else {
                alike = spell(x, m, text());
            }
        }
        return alike;
    }

    public static void main(String[] args) {
        for (int i = 0; i < RUNS; i++) {
            if (!run()) {
                System.out.println("run " + i + " is not as due");
                System.exit(1);
            }
        }
        System.out.println(RUNS + " runs are as due");
    }
}
