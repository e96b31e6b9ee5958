import java.util.function.ToIntFunction;

/** One method a promise: ordinary inputs, the edges that the document names, and wrong inputs. */
public final class PromisesTest {
    private static int promise;
    private static int wrong;

    private static void due(String call, long got, long want) {
        if (got != want) {
            wrong++;
            System.out.println("promise " + promise + ": " + call + " answered " + got + ", due is " + want);
        }
    }

    // ---- helpers

    private static long packed(String characters) {
        long number = 0;
        for (int i = 0; i < characters.length(); i++) {
            number = number << 8 | characters.charAt(i);
        }
        return number;
    }

    private static HostileHouses write(HostileHouses x, String text) {
        for (int at = 0; at < text.length(); at += 8) {
            x.put(packed(text.substring(at, Math.min(at + 8, text.length()))));
        }
        return x;
    }

    /** A new object whose game begins with a position. */
    private static HostileHouses at(String position) {
        HostileHouses x = write(new HostileHouses(), position);
        x.read();
        return x;
    }

    /** All that the object tells, but for the moves behind the eighth. */
    private static String view(HostileHouses x) {
        StringBuilder all = new StringBuilder();
        for (int what = 0; what < 14; what++) {
            all.append(x.count(what)).append(' ');
        }
        for (int house = 0; house < 12; house++) {
            for (int what = 0; what < 3; what++) {
                all.append(x.house(house, what)).append(' ');
            }
        }
        for (int what = 0; what < 5; what++) {
            all.append(x.last(what)).append(' ');
        }
        for (int move = 0; move < 8; move++) {
            all.append(x.moved(move)).append(' ');
        }
        return all.append(x.fault()).toString();
    }

    /** The view without the length of the pad, its fault and the changes that can be undone. */
    private static String game(HostileHouses x) {
        String[] numbers = view(x).split(" ");
        numbers[12] = numbers[13] = numbers[numbers.length - 1] = "";
        return String.join(" ", numbers);
    }

    /** A game with a few changes, a full history, one saved slot, and a text with a fault on the pad. */
    private static HostileHouses busy() {
        HostileHouses x = new HostileHouses();
        x.set(HostileHouses.VISITS, 1);
        for (int i = 0; i < 7; i++) {
            x.play(1);
        }
        x.save(1);
        write(x, "1,2,x");
        return x;
    }

    private static HostileHouses over() {
        return at("1,0,0,0,0,0,0,0,0,0,0,2/9,0/1");
    }

    private static void error(String call, HostileHouses x, ToIntFunction<HostileHouses> made, int want) {
        String before = view(x);
        due(call, made.applyAsInt(x), want);
        if (!view(x).equals(before)) {
            due(call + " changed something; 0", 1, 0);
        }
    }

    /** A call that tells something, or wants to, changes nothing. */
    private static void tells(String call, HostileHouses x, ToIntFunction<HostileHouses> made, int want) {
        error(call, x, made, want);
    }

    private static void seeds(HostileHouses x, int... want) {
        for (int house = 0; house < 12; house++) {
            due("house(" + house + ", 0)", x.house(house, 0), want[house]);
        }
    }

    private static void stores(HostileHouses x, int first, int second) {
        due("count(3)", x.count(3), first);
        due("count(4)", x.count(4), second);
    }

    private static void last(HostileHouses x, int... want) {
        for (int what = 0; what < 5; what++) {
            due("last(" + what + ")", x.last(what), want[what]);
        }
    }

    private static final int[] FAR = {Integer.MIN_VALUE, Integer.MAX_VALUE, -7, 1000};

    // ---- the promises

    private static void aNewObject() {
        HostileHouses x = new HostileHouses();
        int[] want = {0, 0, -6, 0, 0, 48, 0, 4, 3, 6, 1, 0, 0, 0};
        for (int what = 0; what < want.length; what++) {
            due("count(" + what + ")", x.count(what), want[what]);
        }
        seeds(x, 4, 4, 4, 4, 4, 4, 4, 4, 4, 4, 4, 4);
        for (int house = 0; house < 12; house++) {
            due("house(h, 1)", x.house(house, 1), 0);
            due("house(h, 2)", x.house(house, 2), 0);
        }
        due("last(0)", x.last(0), -6);
        due("undo()", x.undo(), -5);
        due("restore(0)", x.restore(0), -5);
        due("restore(1)", x.restore(1), -5);
        HostileHouses other = new HostileHouses();
        other.set(HostileHouses.SEEDS, 9);
        other.move(0);
        due("a second object's count(7)", new HostileHouses().count(7), 4);
        due("the first object's count(6)", x.count(6), 0);
    }

    private static void set() {
        int[] first = {4, 3, 6, 1};
        int[] lowest = {1, 1, 0, 0};
        int[] highest = {9, 9, 20, 3};
        for (int i = 0; i < 4; i++) {
            int setting = i;
            HostileHouses x = new HostileHouses();
            due("set to the highest", x.set(setting, highest[i]), first[i]);
            due("count", x.count(7 + i), highest[i]);
            due("set to the lowest", x.set(setting, lowest[i]), highest[i]);
            due("count", x.count(7 + i), lowest[i]);
            error("set too low", x, y -> y.set(setting, lowest[setting] - 1), -2);
            error("set too high", x, y -> y.set(setting, highest[setting] + 1), -2);
            for (int far : FAR) {
                error("set far off", x, y -> y.set(setting, far), -2);
                error("no such setting", x, y -> y.set(far, 2), -2);
            }
            due("set to what it is", x.set(setting, lowest[i]), lowest[i]);
            due("count(13)", x.count(13), 3);
            for (int other = 0; other < 4; other++) {
                due("other settings", x.count(7 + other), other == i ? lowest[i] : first[other]);
            }
        }
        error("set(-1, 2)", busy(), y -> y.set(-1, 2), -2);
        error("set(4, 2)", busy(), y -> y.set(4, 2), -2);

        HostileHouses x = new HostileHouses();
        x.set(HostileHouses.SEEDS, 7);
        due("SEEDS leaves this game: count(5)", x.count(5), 48);
        x.move(0);
        int visited = x.last(2);
        x.set(HostileHouses.VISITS, 1);
        due("VISITS matters at once: house(h, 2)", x.house(visited, 2), 1);
        x.set(HostileHouses.VISITS, 9);
        due("VISITS matters at once: count(11)", x.count(11), 0);
        x = new HostileHouses();
        x.set(HostileHouses.LAPS, 0);
        due("LAPS matters at once: move(2)", x.move(2), 1);
    }

    private static void begin() {
        HostileHouses x = busy();
        due("begin()", x.begin(), 7);
        due("count(6)", x.count(6), 0);
        due("count(0)", x.count(0), 0);
        due("count(8)", x.count(8), 1);
        due("count(11)", x.count(11), 0);
        due("count(12)", x.count(12), 5);
        due("last(1)", x.last(1), -6);
        due("moved(0)", x.moved(0), -1);
        seeds(x, 4, 4, 4, 4, 4, 4, 4, 4, 4, 4, 4, 4);
        stores(x, 0, 0);
        due("begin() again", x.begin(), 0);
        for (int each = 1; each <= 9; each++) {
            x.set(HostileHouses.SEEDS, each);
            x.begin();
            due("count(5)", x.count(5), 12 * each);
            due("house(11, 0)", x.house(11, 0), each);
        }
        x = over();
        due("begin() behind the end", x.begin(), 0);
        due("count(1)", x.count(1), 0);
        stores(x, 0, 0);
        x = new HostileHouses();
        x.move(0);
        due("count(0)", x.count(0), 1);
        x.begin();
        due("count(0)", x.count(0), 0);
        x.undo();
        due("count(6)", x.count(6), 1);
    }

    private static void move() {
        moveOneLap();
        moveMoreLaps();
        moveCapturesVisits();
        moveTolls();
        moveTurnsAndEnds();
        for (int house : new int[] {-1, 12, Integer.MIN_VALUE, Integer.MAX_VALUE}) {
            error("move(no such)", busy(), y -> y.move(house), -1);
            error("move(no such), over", over(), y -> y.move(house), -1);
        }
        error("move(of the other), first", new HostileHouses(), y -> y.move(6), -5);
        error("move(of the other), last", new HostileHouses(), y -> y.move(11), -5);
        error("move(empty)", at("0,1,0,0,0,0,0,0,0,0,1,1/0,0/0"), y -> y.move(0), -5);
        error("move(empty)", at("0,1,0,0,0,0,0,0,0,0,1,1/0,0/1"), y -> y.move(6), -5);
        for (int i = 0; i < 12; i++) {
            int house = i;
            error("move, over", over(), y -> y.move(house), -5);
        }
    }

    private static void moveOneLap() {
        HostileHouses x = at("9,0,1,0,0,0,0,0,4,0,0,9/0,0/0");
        due("a capture: move(2)", x.move(2), 1);
        seeds(x, 9, 0, 0, 0, 0, 0, 0, 0, 0, 0, 0, 9);
        stores(x, 5, 0);
        last(x, 2, 1, 3, 5, 0);
        due("house(3, 1)", x.house(3, 1), 1);
        due("count(0)", x.count(0), 1);

        x = at("9,0,0,0,0,4,0,0,9,0,1,0/0,0/1");
        due("player 1 captures: move(10)", x.move(10), 1);
        seeds(x, 0, 0, 0, 0, 0, 4, 0, 0, 9, 0, 0, 0);
        stores(x, 0, 10);

        x = at("9,0,0,0,2,3,0,0,9,0,0,0/0,0/0");
        due("no capture on the other side: move(4)", x.move(4), 1);
        seeds(x, 9, 0, 0, 0, 0, 4, 1, 0, 9, 0, 0, 0);
        last(x, 4, 1, 6, 0, 0);

        x = at("9,0,1,0,0,0,0,0,0,0,0,9/0,0/0");
        due("nothing across: move(2)", x.move(2), 1);
        seeds(x, 9, 0, 0, 1, 0, 0, 0, 0, 0, 0, 0, 9);
        stores(x, 0, 0);

        x = at("12,0,0,0,0,0,0,0,0,0,0,0/0,0/0");
        x.set(HostileHouses.LAPS, 0);
        due("the house of the lap gets no seed: move(0)", x.move(0), 1);
        seeds(x, 0, 2, 1, 1, 1, 1, 1, 1, 1, 1, 1, 1);
        last(x, 0, 1, 1, 0, 0);

        x = at("0,0,3,0,0,0,0,0,0,0,25,0/0,0/1");
        x.set(HostileHouses.LAPS, 0);
        due("twice around: move(10)", x.move(10), 1);
        seeds(x, 3, 3, 5, 2, 2, 2, 2, 2, 2, 2, 0, 3);
        last(x, 10, 1, 1, 0, 0);
    }

    private static void moveMoreLaps() {
        // 0 ends in 1, which goes on to 3, which goes on to 7, which was empty
        String chain = "1,1,0,3,0,0,0,0,0,0,0,9/0,0/0";
        HostileHouses x = at(chain);
        due("move(0)", x.move(0), 3);
        seeds(x, 0, 0, 1, 0, 1, 1, 1, 1, 0, 0, 0, 9);
        last(x, 0, 3, 7, 0, 0);
        due("house(1, 1)", x.house(1, 1), 1);
        due("house(3, 1)", x.house(3, 1), 1);
        due("house(7, 1)", x.house(7, 1), 1);
        due("house(0, 1)", x.house(0, 1), 0);
        int[][] laps = {{0, 1, 1}, {1, 2, 3}, {2, 3, 7}, {3, 3, 7}, {20, 3, 7}};
        for (int[] limit : laps) {
            x = at(chain);
            x.set(HostileHouses.LAPS, limit[0]);
            due("LAPS " + limit[0] + ": move(0)", x.move(0), limit[1]);
            due("last(2)", x.last(2), limit[2]);
        }
        // a house that is hostile ahead of its visit ends the move; the visit that makes it hostile doesn't
        x = at(chain);
        x.set(HostileHouses.VISITS, 1);
        due("VISITS 1: move(0)", x.move(0), 3);
        due("count(11)", x.count(11), 3);
        x = at("1,2,0,0,0,9,0,0,0,0,0,9/0,0/0");
        x.set(HostileHouses.VISITS, 1);
        x.set(HostileHouses.LAPS, 0);
        x.move(0);
        x.move(11);
        x.set(HostileHouses.LAPS, 6);
        due("house(0, 0)", x.house(0, 0), 1);
        due("house(1, 2)", x.house(1, 2), 1);
        due("a hostile house ends the move: move(0)", x.move(0), 1);
        due("house(1, 1)", x.house(1, 1), 2);
    }

    private static void moveCapturesVisits() {
        HostileHouses x = at("9,0,0,0,1,1,2,9,0,1,0,0/0,0/0");
        x.set(HostileHouses.LAPS, 0);
        x.move(5);
        x.move(9);
        due("house(6, 1)", x.house(6, 1), 1);
        due("move(4)", x.move(4), 1);
        due("last(3)", x.last(3), 4);
        due("house(6, 1) behind the capture", x.house(6, 1), 0);
        due("house(5, 1) behind the capture", x.house(5, 1), 1);
        due("house(10, 1) behind the capture", x.house(10, 1), 1);
        // a hostile house captures, too
        x = at("9,0,0,0,1,0,0,9,0,1,1,0/20,20/0");
        x.set(HostileHouses.LAPS, 0);
        x.set(HostileHouses.VISITS, 1);
        x.move(4);
        x.move(9);
        x.move(5);
        x.move(7);
        due("house(4, 0)", x.house(4, 0), 1);
        x.move(4);
        due("house(5, 1)", x.house(5, 1), 2);
        due("captured by the hostile house 5", x.last(3), 2);
    }

    /** Player 0's next move is from house 4, past house 6, which is hostile. */
    private static HostileHouses withHostileHouse(int seedsOfHouse4, int toll) {
        HostileHouses x = at("9,0,0,0," + seedsOfHouse4 + ",1,0,0,0,0,1,9/0,0/0");
        x.set(HostileHouses.VISITS, 1);
        x.set(HostileHouses.LAPS, 0);
        x.set(HostileHouses.TOLL, toll);
        x.move(5);
        x.move(10);
        return x;
    }

    private static void moveTolls() {
        HostileHouses x = withHostileHouse(3, 1);
        due("count(11)", x.count(11), 2);
        due("move(4)", x.move(4), 1);
        seeds(x, 9, 0, 0, 0, 0, 1, 2, 0, 0, 0, 0, 10);
        stores(x, 0, 1);
        last(x, 4, 1, 6, 0, 1);
        // seeds of house 4, TOLL, tolls that are paid: the hand has one less when it comes to house 6
        int[][] cases = {{2, 1, 0}, {3, 1, 1}, {3, 0, 0}, {8, 0, 0}, {3, 2, 0}, {4, 2, 2}, {4, 3, 0}, {5, 3, 3},
            {8, 1, 1}, {9, 1, 2}, {10, 1, 2}};
        for (int[] one : cases) {
            x = withHostileHouse(one[0], one[1]);
            x.move(4);
            due("tolls of " + one[0] + " seeds by " + one[1], x.last(4), one[2]);
            stores(x, 0, one[2]);
            due("count(5)", x.count(5), 20 + one[0]);
        }
        // own hostile houses take nothing
        x = withHostileHouse(3, 1);
        x.move(4);
        x.set(HostileHouses.TOLL, 3);
        x.move(6);
        due("own hostile houses: last(4)", x.last(4), 0);
        // player 1 pays into the store of player 0
        x = at("0,1,0,0,0,9,9,0,0,0,0,5/0,0/0");
        x.set(HostileHouses.VISITS, 1);
        x.set(HostileHouses.LAPS, 0);
        x.set(HostileHouses.TOLL, 2);
        x.move(1);
        due("move(11)", x.move(11), 1);
        seeds(x, 1, 1, 2, 0, 0, 9, 9, 0, 0, 0, 0, 0);
        stores(x, 2, 0);
        last(x, 11, 1, 2, 0, 2);
    }

    private static void moveTurnsAndEnds() {
        HostileHouses x = at("1,0,0,0,0,0,0,0,0,0,0,0/5,5/0");
        x.move(0);
        due("the other one has no seeds: count(0)", x.count(0), 0);
        due("count(1)", x.count(1), 0);
        for (int house = 1; house < 6; house++) {
            x.move(house);
        }
        due("the seed is at 6: count(0)", x.count(0), 1);
        due("move(6)", x.move(6), 1);
        due("count(0)", x.count(0), 1);

        // more than half of all: the houses go into the stores of their owners
        x = at("0,0,1,0,0,1,0,0,4,0,0,2/5,5/0");
        x.move(2);
        due("5 and 5 of 18: count(1)", x.count(1), 1);
        stores(x, 11, 7);
        due("count(2)", x.count(2), 0);
        due("count(0)", x.count(0), 1);
        seeds(x, 0, 0, 0, 0, 0, 0, 0, 0, 0, 0, 0, 0);
        // just half of all is not enough
        x = at("0,0,1,0,0,1,0,0,4,0,0,2/4,6/0");
        x.move(2);
        due("9 of 18: count(1)", x.count(1), 0);
        due("count(2)", x.count(2), -6);
        // the other player's store ends it, too, by tolls
        x = at("1,0,0,0,3,0,0,0,0,0,1,1/0,6/0");
        x.set(HostileHouses.VISITS, 1);
        x.set(HostileHouses.LAPS, 0);
        due("count(5)", x.count(5), 12);
        x.move(0);
        x.move(10);
        due("count(1)", x.count(1), 0);
        // all houses are empty: a capture of the last seeds
        x = at("0,0,1,0,0,0,0,0,1,0,0,0/4,6/0");
        x.move(2);
        due("all houses are empty: count(1)", x.count(1), 1);
        due("count(2)", x.count(2), 2);
        stores(x, 6, 6);
        due("count(0)", x.count(0), 1);
        moveThreeHundredTimes();
    }

    /** One seed that goes around, with stores that stay at half of all or below. */
    private static void moveThreeHundredTimes() {
        HostileHouses x = at("1,0,0,0,0,0,0,0,0,0,0,0/99,99/0");
        due("movesLeft(1)", x.movesLeft(1), 300);
        for (int move = 0; move < 299; move++) {
            x.move(move % 12);
        }
        due("count(6)", x.count(6), 299);
        due("count(1)", x.count(1), 0);
        due("count(0)", x.count(0), 1);
        due("ifMove(11, 6)", x.ifMove(11, 6), 1);
        due("ifMove(11, 5)", x.ifMove(11, 5), 0);
        due("ifMove(11, 4)", x.ifMove(11, 4), 10000);
        due("movesLeft(2)", x.movesLeft(2), 1);
        due("worth(4)", x.worth(4), 9999);
        due("move(11)", x.move(11), 1);
        due("count(6)", x.count(6), 300);
        due("count(1)", x.count(1), 1);
        due("count(2)", x.count(2), 0);
        stores(x, 100, 99);
        due("house(0, 0)", x.house(0, 0), 0);
        due("house(0, 1)", x.house(0, 1), 25);
        due("moved(299)", x.moved(299), 11);
        due("moved(300)", x.moved(300), -1);
        due("move(0)", x.move(0), -5);
        due("begin()", x.begin(), 300);
        due("undo()", x.undo(), 5);
        due("moved(298)", x.moved(298), 10);
    }

    /** From 0 player 0 captures 5, and then player 1 captures the 8 seeds of 2 from 8; from 2 nobody captures. */
    private static HostileHouses captureOrTakeCare() {
        HostileHouses x = at("1,0,8,0,0,0,0,0,1,0,4,0/20,20/0");
        x.set(HostileHouses.LAPS, 0);
        return x;
    }

    private static void play() {
        HostileHouses x = at("9,0,1,0,1,0,0,2,4,0,0,9/0,0/0");
        due("the greatest capture: play(1)", x.play(1), 2);
        due("last(3)", x.last(3), 5);
        due("count(6)", x.count(6), 1);
        due("count(13)", x.count(13), 2);
        x = at("9,0,1,0,1,0,5,2,4,0,0,9/0,0/0");
        due("the greatest capture: play(1)", x.play(1), 4);
        for (int depth = 1; depth <= 4; depth++) {
            x = at("1,0,0,1,0,0,0,0,0,0,0,0/5,5/0");
            due("of several the lowest: play(" + depth + ")", x.play(depth), 0);
            x = at("0,0,0,0,0,0,0,0,1,0,0,0/5,5/1");
            due("the only one: play(" + depth + ")", x.play(depth), 8);
        }
        x = captureOrTakeCare();
        due("play(1)", x.play(1), 0);
        due("last(3)", x.last(3), 5);
        x.undo();
        due("play(2)", x.play(2), 2);
        due("last(3)", x.last(3), 0);
        int[] wrongDepths = {0, 5, -1, Integer.MIN_VALUE, Integer.MAX_VALUE};
        for (int depth : wrongDepths) {
            error("play(" + depth + ")", busy(), y -> y.play(depth), -2);
            error("play(" + depth + "), over", over(), y -> y.play(depth), -2);
        }
        for (int i = 1; i <= 4; i++) {
            int depth = i;
            error("play(" + depth + "), over", over(), y -> y.play(depth), -5);
        }
    }

    private static void read() {
        HostileHouses x = busy();
        x.wipe();
        write(x, "0,1,2,3,4,5,6,7,8,9,10,99/11,12/1");
        due("read()", x.read(), 177);
        seeds(x, 0, 1, 2, 3, 4, 5, 6, 7, 8, 9, 10, 99);
        stores(x, 11, 12);
        int[] want = {1, 0, -6, 11, 12, 177, 0, 4, 1, 6, 1, 0, 0, 6};
        for (int what = 0; what < want.length; what++) {
            due("count(" + what + ")", x.count(what), want[what]);
        }
        due("house(0, 1)", x.house(0, 1), 0);
        due("last(0)", x.last(0), -6);
        due("moved(0)", x.moved(0), -1);
        due("undo()", x.undo(), 5);
        due("the pad stays empty: count(12)", x.count(12), 0);
        due("count(6)", x.count(6), 7);

        x = at("0,0,0,0,0,0,0,0,0,0,0,0/3,2/1");
        due("all houses are empty: count(1)", x.count(1), 1);
        due("count(2)", x.count(2), 0);
        due("count(0)", x.count(0), 1);
        due("worth(0)", x.worth(0), 9999);
        due("worth(4)", x.worth(4), 9999);
        x = at("0,0,0,0,0,0,0,0,0,0,0,0/0,0/0");
        due("nothing at all: count(2)", x.count(2), 2);
        due("count(0)", x.count(0), 0);
        due("count(5)", x.count(5), 0);
        x = at("2,0,0,0,0,0,0,0,0,0,0,3/0,6/0");
        due("more than half: count(1)", x.count(1), 1);
        due("count(2)", x.count(2), 1);
        stores(x, 2, 9);
        due("count(0)", x.count(0), 0);
        due("count(6)", x.count(6), 0);
        due("house(11, 0)", x.house(11, 0), 0);
        x = at("0,0,0,0,0,0,0,0,0,0,0,3/6,0/0");
        due("over, and the player without seeds: count(0)", x.count(0), 0);
        stores(x, 6, 3);
        x = at("2,0,0,0,0,0,0,0,0,0,0,3/0,5/0");
        due("half: count(1)", x.count(1), 0);
        x = at("2,0,0,0,0,0,0,0,0,0,0,3/5,0/1");
        due("half: count(1)", x.count(1), 0);
        due("count(0)", x.count(0), 1);
        x = at("0,0,0,0,0,0,0,0,0,0,0,3/0,0/0");
        due("player 0 has no seeds: count(0)", x.count(0), 1);
        x = at("0,0,0,0,0,3,0,0,0,0,0,0/0,0/1");
        due("player 1 has no seeds: count(0)", x.count(0), 0);
        x = at("99,99,99,99,99,99,99,99,99,99,99,99/99,99/0");
        due("the most seeds: count(5)", x.count(5), 14 * 99);
        due("count(1)", x.count(1), 0);
        x = over();
        write(x, "1,0,0,0,0,0,0,0,0,0,0,3/0,0/0");
        due("behind the end: read()", x.read(), 4);
        due("count(1)", x.count(1), 0);

        error("read(), a fault", busy(), HostileHouses::read, -3);
        error("read(), empty", over(), HostileHouses::read, -3);
        String[] texts = {"0", "0,0,0,0,0,0,0,0,0,0,0,0/0,0/", "0,0,0,0,0,0,0,0,0,0,0,0/0,0/2",
            "0,0,0,0,0,0,0,0,0,0,0,0/0,0/00", "1,0,0,0,0,0,0,0,0,0,0,0/0,0/0,"};
        for (String text : texts) {
            error("read() of " + text, write(new HostileHouses(), text), HostileHouses::read, -3);
        }
    }

    private static void house() {
        HostileHouses x = at("0,1,2,3,4,5,6,7,8,9,10,11/0,0/0");
        for (int i = 0; i < 12; i++) {
            int house = i;
            tells("house(h, 0)", x, y -> y.house(house, 0), house);
            tells("house(h, 1)", x, y -> y.house(house, 1), 0);
            tells("house(h, 2)", x, y -> y.house(house, 2), 0);
        }
        x = at("1,0,0,0,0,0,0,0,0,0,0,0/99,99/0");
        for (int move = 0; move < 24; move++) {
            x.move(move % 12);
        }
        due("two visits: house(5, 1)", x.house(5, 1), 2);
        due("two visits: house(5, 2)", x.house(5, 2), 0);
        for (int move = 0; move < 5; move++) {
            x.move(move);
        }
        due("three visits: house(5, 1)", x.house(5, 1), 3);
        due("three visits: house(5, 2)", x.house(5, 2), 1);
        due("house(6, 2)", x.house(6, 2), 0);
        due("house(0, 2)", x.house(0, 2), 0);
        due("house(1, 2)", x.house(1, 2), 1);
        for (int house : new int[] {-1, 12, Integer.MIN_VALUE, Integer.MAX_VALUE}) {
            error("no such house", busy(), y -> y.house(house, 0), -1);
            error("no such house ahead of what", busy(), y -> y.house(house, 3), -1);
        }
        for (int what : new int[] {-1, 3, Integer.MIN_VALUE, Integer.MAX_VALUE}) {
            error("house(0, what)", busy(), y -> y.house(0, what), -2);
            error("house(11, what)", busy(), y -> y.house(11, what), -2);
        }
    }

    private static void count() {
        HostileHouses x = withHostileHouse(3, 1);
        x.move(4);
        write(x, "12,3");
        // the read, three settings and three moves: one more than the history keeps
        int[] want = {1, 0, -6, 0, 1, 23, 3, 4, 1, 0, 1, 2, 4, 6};
        for (int i = 0; i < want.length; i++) {
            int what = i;
            tells("count(" + what + ")", x, y -> y.count(what), want[what]);
        }
        x = over();
        due("over: count(1)", x.count(1), 1);
        due("over: count(2)", x.count(2), 0);
        x = at("0,0,0,0,0,0,0,0,0,0,0,0/2,3/0");
        due("over: count(2)", x.count(2), 1);
        x = at("0,0,0,0,0,0,0,0,0,0,0,0/3,3/0");
        due("over: count(2)", x.count(2), 2);
        x = new HostileHouses();
        for (int changes = 1; changes <= 8; changes++) {
            x.set(HostileHouses.TOLL, 1);
            due("count(13)", x.count(13), Math.min(changes, 6));
        }
        for (int what : new int[] {-1, 14, Integer.MIN_VALUE, Integer.MAX_VALUE}) {
            error("count(" + what + ")", busy(), y -> y.count(what), -2);
        }
    }

    private static void last() {
        HostileHouses x = at("1,1,0,3,0,0,0,0,0,0,0,9/0,0/0");
        for (int what = 0; what < 5; what++) {
            due("no move yet: last(" + what + ")", x.last(what), -6);
        }
        x.move(0);
        last(x, 0, 3, 7, 0, 0);
        x.move(7);
        last(x, 7, 1, 8, 0, 0);
        x.undo();
        last(x, 0, 3, 7, 0, 0);
        x.begin();
        due("last(0)", x.last(0), -6);
        x.undo();
        last(x, 0, 3, 7, 0, 0);
        x = at("9,0,1,0,0,0,0,0,4,0,0,9/0,0/0");
        x.move(2);
        last(x, 2, 1, 3, 5, 0);
        x = withHostileHouse(5, 3);
        x.move(4);
        last(x, 4, 1, 6, 0, 3);
        x.move(11);
        x.undo();
        last(x, 4, 1, 6, 0, 3);
        x = captureOrTakeCare();
        x.move(0);
        x.set(HostileHouses.TOLL, 0);
        x.begin();
        x.undo();
        x.undo();
        last(x, 0, 1, 1, 5, 0);
        // the seeds that go into the stores at the end are not captured
        x = at("0,0,1,0,0,1,0,0,4,0,0,2/5,5/0");
        x.move(2);
        last(x, 2, 1, 3, 5, 0);
        for (int what : new int[] {-1, 5, Integer.MIN_VALUE, Integer.MAX_VALUE}) {
            error("last(" + what + ")", busy(), y -> y.last(what), -2);
            error("last(" + what + "), no move yet", new HostileHouses(), y -> y.last(what), -2);
        }
    }

    private static void moved() {
        HostileHouses x = at("1,0,0,0,0,0,0,0,0,0,0,0/99,99/0");
        for (int move = 0; move < 20; move++) {
            due("moved(next)", x.moved(move), -1);
            x.move(move % 12);
            int latest = move;
            tells("moved(latest)", x, y -> y.moved(latest), move % 12);
            due("moved(0)", x.moved(0), 0);
        }
        due("moved(13)", x.moved(13), 1);
        x.undo();
        due("moved(19)", x.moved(19), -1);
        due("moved(18)", x.moved(18), 6);
        x.begin();
        due("moved(0)", x.moved(0), -1);
        x.move(5);
        due("moved(0)", x.moved(0), 5);
        due("moved(1)", x.moved(1), -1);
        x.undo();
        x.undo();
        due("moved(0) of the game before", x.moved(0), 0);
        for (int move : new int[] {-1, 7, Integer.MIN_VALUE, Integer.MAX_VALUE}) {
            error("moved(" + move + ")", busy(), y -> y.moved(move), -1);
        }
    }

    private static void ifMove() {
        HostileHouses x = at("0,0,1,0,0,1,0,0,4,0,0,0/4,0/0");
        int[] wins = {1, 3, 5, 0, 10006, 1, 1};
        for (int i = 0; i < wins.length; i++) {
            int what = i;
            tells("ifMove(2, " + what + ")", x, y -> y.ifMove(2, what), wins[what]);
        }
        x = withHostileHouse(5, 3);
        int[] pays = {1, 6, 0, 3, 10000, 1, 0};
        for (int what = 0; what < pays.length; what++) {
            due("ifMove(4, " + what + ")", x.ifMove(4, what), pays[what]);
        }
        x = at("1,1,0,3,0,0,0,0,0,0,0,9/0,0/0");
        due("ifMove(0, 0)", x.ifMove(0, 0), 3);
        due("ifMove(0, 1)", x.ifMove(0, 1), 7);
        due("ifMove(0, 5)", x.ifMove(0, 5), 1);
        due("the settings matter", x.set(HostileHouses.LAPS, 1), 6);
        due("ifMove(0, 0)", x.ifMove(0, 0), 2);
        x = at("1,0,0,0,0,0,0,0,0,0,0,0/5,5/0");
        due("the same player again: ifMove(0, 5)", x.ifMove(0, 5), 0);
        // player 1's store is meant when player 1 moves
        x = at("9,0,0,0,0,4,0,0,9,0,1,0/0,0/1");
        due("ifMove(10, 4)", x.ifMove(10, 4), 10010);
        due("ifMove(10, 2)", x.ifMove(10, 2), 10);

        for (int house : new int[] {-1, 12, Integer.MIN_VALUE, Integer.MAX_VALUE}) {
            error("no such house", busy(), y -> y.ifMove(house, 0), -1);
            error("no such house ahead of what", busy(), y -> y.ifMove(house, 7), -1);
            error("no such house, over", over(), y -> y.ifMove(house, 0), -1);
        }
        error("not own", new HostileHouses(), y -> y.ifMove(6, 0), -5);
        error("not own ahead of what", new HostileHouses(), y -> y.ifMove(6, 7), -5);
        error("empty", at("0,1,0,0,0,0,0,0,0,0,1,1/0,0/0"), y -> y.ifMove(0, 0), -5);
        error("empty ahead of what", at("0,1,0,0,0,0,0,0,0,0,1,1/0,0/0"), y -> y.ifMove(0, -1), -5);
        error("over", over(), y -> y.ifMove(0, 0), -5);
        error("over ahead of what", over(), y -> y.ifMove(0, 9), -5);
        for (int what : new int[] {-1, 7, Integer.MIN_VALUE, Integer.MAX_VALUE}) {
            error("ifMove(0, " + what + ")", new HostileHouses(), y -> y.ifMove(0, what), -2);
        }
    }

    private static void worth() {
        HostileHouses x = at("0,0,1,0,0,1,0,0,4,0,0,0/4,0/0");
        int[] wins = {10004, 10010, 10010, 10010, 10010};
        for (int i = 0; i < wins.length; i++) {
            int depth = i;
            tells("worth(" + depth + ")", x, y -> y.worth(depth), wins[depth]);
        }
        x = at("1,0,0,0,0,0,0,0,0,0,0,0/9,8/0");
        for (int depth = 0; depth <= 4; depth++) {
            due("the same player again: worth(" + depth + ")", x.worth(depth), 10001);
        }
        x = at("0,0,0,0,0,0,0,0,0,0,1,0/9,8/1");
        due("for player 1: worth(0)", x.worth(0), 9999);
        due("for player 1, then player 0: worth(3)", x.worth(3), 9999);
        x = captureOrTakeCare();
        due("worth(0)", x.worth(0), 10000);
        due("worth(1)", x.worth(1), 10005);
        due("worth(2)", x.worth(2), 10000);
        x.play(1);
        due("worth(0)", x.worth(0), 9995);
        due("worth(1)", x.worth(1), 10004);
        // over: player 1's lead and player 0 to move, and the other way around
        due("over: worth(3)", over().worth(3), 10000 + 2 - 10);
        x = at("1,0,0,0,0,0,0,0,0,0,0,2/9,0/0");
        for (int depth = 0; depth <= 4; depth++) {
            due("over: worth(" + depth + ")", x.worth(depth), 10000 + 10 - 2);
        }
        for (int depth : new int[] {-1, 5, Integer.MIN_VALUE, Integer.MAX_VALUE}) {
            error("worth(" + depth + ")", busy(), y -> y.worth(depth), -2);
            error("worth(" + depth + "), over", over(), y -> y.worth(depth), -2);
        }
    }

    private static void best() {
        HostileHouses x = at("9,0,1,0,1,0,0,2,4,0,0,9/0,0/0");
        tells("best(1)", x, y -> y.best(1), 2);
        x = at("9,0,1,0,1,0,5,2,4,0,0,9/0,0/0");
        tells("best(1)", x, y -> y.best(1), 4);
        tells("best(1)", captureOrTakeCare(), y -> y.best(1), 0);
        tells("best(2)", captureOrTakeCare(), y -> y.best(2), 2);
        for (int i = 1; i <= 4; i++) {
            int depth = i;
            x = at("1,0,0,1,0,0,0,0,0,0,0,0/5,5/0");
            tells("of several the lowest", x, y -> y.best(depth), 0);
            x = at("0,0,0,0,0,0,0,0,1,0,0,0/5,5/1");
            tells("the only one", x, y -> y.best(depth), 8);
            error("over", over(), y -> y.best(depth), -6);
            x = new HostileHouses();
            for (int move = 0; move < 6; move++) {
                int told = x.best(depth);
                due("play() as best() tells", x.play(depth), told);
            }
        }
        for (int depth : new int[] {-1, 0, 5, Integer.MIN_VALUE, Integer.MAX_VALUE}) {
            error("best(" + depth + ")", busy(), y -> y.best(depth), -2);
            error("best(" + depth + "), over", over(), y -> y.best(depth), -2);
        }
    }

    private static void movesLeft() {
        for (int depth = 1; depth <= 2; depth++) {
            int by = depth;
            HostileHouses x = new HostileHouses();
            int told = x.movesLeft(depth);
            tells("movesLeft(" + depth + ")", x, y -> y.movesLeft(by), told);
            int made = 0;
            while (x.count(1) == 0 && made < 400) {
                if (made % 10 == 0) {
                    due("movesLeft(" + depth + ")", x.movesLeft(depth), told - made);
                }
                x.play(depth);
                made++;
            }
            due("movesLeft(" + depth + ") of a new game", told, made);
            due("over: movesLeft(" + depth + ")", x.movesLeft(depth), 0);
            due("over at once: movesLeft(" + depth + ")", over().movesLeft(depth), 0);
            x = at("1,0,0,0,0,0,0,0,0,0,0,0/99,99/0");
            due("300 moves: movesLeft(" + depth + ")", x.movesLeft(depth), 300);
            x.move(0);
            due("299 moves: movesLeft(" + depth + ")", x.movesLeft(depth), 299);
        }
        for (int depth : new int[] {-1, 0, 3, Integer.MIN_VALUE, Integer.MAX_VALUE}) {
            error("movesLeft(" + depth + ")", busy(), y -> y.movesLeft(depth), -2);
            error("movesLeft(" + depth + "), over", over(), y -> y.movesLeft(depth), -2);
        }
    }

    private static void put() {
        HostileHouses x = new HostileHouses();
        due("one character", x.put('1'), 1);
        due("two characters", x.put(packed(",2")), 3);
        due("eight characters", x.put(packed(",3,4,5,6")), 11);
        due("the order of the characters", x.fault(), 11);
        due("count(12)", x.count(12), 11);
        due("not a change: count(13)", x.count(13), 0);
        due("the lowest code", x.put(33), 12);
        due("the highest code", x.put(126), 13);
        due("the first that can't stand there", x.fault(), 11);

        long[] bad = {0, 32, 127, 255, 1, -1, Long.MIN_VALUE, Long.MAX_VALUE, packed("1 2"), packed("1") << 8,
            packed("1") << 56, packed("1") << 16 | '2', packed("12345678") & ~0xFF00L, packed("1234567") << 8,
            packed("12345678") | 0x8000000000000000L, 0x1F00L | '1', 0x0100000000000031L};
        for (long characters : bad) {
            error("put(" + characters + ")", busy(), y -> y.put(characters), -2);
        }
        x = new HostileHouses();
        for (int length = 8; length <= 56; length += 8) {
            due("put(8 characters)", x.put(packed("~~~~~~~~")), length);
        }
        error("5 characters behind 56", x, y -> y.put(packed("12345")), -4);
        error("8 characters behind 56", x, y -> y.put(packed("12345678")), -4);
        due("4 characters behind 56", x.put(packed("1234")), 60);
        error("a full pad", x, y -> y.put('1'), -4);
        for (long characters : bad) {
            error("a full pad, put(" + characters + ")", x, y -> y.put(characters), -2);
        }
        due("count(12)", x.count(12), 60);
        x = busy();
        x.undo();
        due("undo leaves the pad", x.count(12), 5);
    }

    private static void wipe() {
        HostileHouses x = new HostileHouses();
        due("an empty pad", x.wipe(), 0);
        x.put(packed("12,"));
        due("wipe()", x.wipe(), 3);
        due("count(12)", x.count(12), 0);
        due("wipe() again", x.wipe(), 0);
        due("not a change: count(13)", x.count(13), 0);
        write(x, "~".repeat(60));
        due("a full pad", x.wipe(), 60);
        due("put behind it", x.put('1'), 1);
        due("what stood there is gone", x.fault(), 1);
        x = busy();
        String before = game(x);
        due("wipe()", x.wipe(), 5);
        due("nothing but the pad is different", game(x).equals(before) ? 1 : 0, 1);
    }

    private static void fault() {
        String houses = "0,1,2,3,4,5,6,7,8,9,10,11";
        String good = houses + "/12,99/1";
        Object[][] texts = {
            {"", 0}, {good, -6}, {houses + "/0,0/0", -6},
            {"99,99,99,99,99,99,99,99,99,99,99,99/99,99/1", -6},
            {"x", 0}, {",", 0}, {"/", 0}, {"-1", 0}, {"+1", 0}, {"0", 1}, {"9", 1}, {"99", 2}, {"990", 2}, {"100", 2},
            {"00", 1}, {"01", 1}, {"0/", 1}, {"1/", 1}, {"10/", 2}, {"0,", 2}, {"0,,", 2}, {"0,/", 2}, {"0.", 1},
            {"1,2,x,00", 4}, {"1:", 1}, {"1!", 1}, {"1a", 1},
            {houses, 25}, {houses + ",", 25}, {houses + "/", 26}, {houses + "1", 25}, {houses + "//", 26},
            {houses + "/,", 26}, {houses + "/1", 27}, {houses + "/1/", 27}, {houses + "/100", 28},
            {houses + "/12,", 29}, {houses + "/12,0", 30}, {houses + "/12,00", 30}, {houses + "/12,0,", 30},
            {houses + "/12,3/", 31}, {houses + "/12,3/2", 31}, {houses + "/12,3/9", 31}, {houses + "/12,3/,", 31},
            {houses + "/12,3//", 31}, {houses + "/12,3/00", 32}, {houses + "/12,3/01", 32}, {houses + "/12,3/10", 32},
            {houses + "/12,3/1,", 32}, {houses + "/12,3/1/", 32}, {houses + "/12,3/0x", 32},
            {"0,1,2,3,4,5,6,7,8,9,10/", 22}, {"0,1,2,3,4,5,6,7,8,9,10,", 23},
        };
        for (Object[] text : texts) {
            HostileHouses x = write(new HostileHouses(), (String) text[0]);
            tells("fault of \"" + text[0] + "\"", x, HostileHouses::fault, (Integer) text[1]);
        }
        for (int length = 0; length < good.length(); length++) {
            HostileHouses x = write(new HostileHouses(), good.substring(0, length));
            due("fault of the first " + length, x.fault(), length);
        }
        HostileHouses x = write(new HostileHouses(), good);
        x.read();
        due("an empty pad behind read(): fault()", x.fault(), 0);
        x = write(new HostileHouses(), "1,".repeat(30));
        due("a full pad: fault()", x.fault(), 23);
    }

    private static void undo() {
        HostileHouses x = new HostileHouses();
        String[] states = new String[9];
        for (int change = 0; change < 8; change++) {
            states[change] = game(x);
            due("a change", x.set(change % 4, 2 + change / 4) > -1 ? 1 : 0, 1);
        }
        for (int left = 5; left >= 0; left--) {
            due("undo()", x.undo(), left);
            due("as it was ahead of the change", game(x).equals(states[left + 2]) ? 1 : 0, 1);
        }
        error("the history is empty: undo()", x, HostileHouses::undo, -5);
        error("a new object: undo()", new HostileHouses(), HostileHouses::undo, -5);

        // every method that is a change
        undone("set", busy(), y -> y.set(HostileHouses.LAPS, 0));
        undone("set to what it is", busy(), y -> y.set(HostileHouses.VISITS, 1));
        undone("begin", busy(), HostileHouses::begin);
        undone("move", busy(), y -> y.move(y.best(1)));
        undone("play", busy(), y -> y.play(2));
        undone("restore", busy(), y -> y.restore(1));
        x = busy();
        x.wipe();
        undone("read", write(x, "1,1,1,1,1,1,1,1,1,1,1,1/2,3/1"), HostileHouses::read);
        undone("read of a game that is over", write(new HostileHouses(), "0,0,0,0,0,0,0,0,0,0,0,0/2,3/1"),
            HostileHouses::read);
        undone("begin of a game that is over", over(), HostileHouses::begin);

        // what is no change is not recorded
        x = new HostileHouses();
        x.put('1');
        x.wipe();
        x.save(0);
        x.fault();
        x.best(1);
        x.worth(1);
        x.movesLeft(1);
        x.ifMove(0, 0);
        due("count(13)", x.count(13), 0);
        // the slots stay
        x.move(0);
        x.save(1);
        x.undo();
        due("restore(1) behind undo()", x.restore(1), 1);
        // undo takes its state out of the history, and new ones follow
        x = new HostileHouses();
        for (int change = 0; change < 20; change++) {
            x.set(HostileHouses.LAPS, change);
        }
        due("undo()", x.undo(), 5);
        due("undo()", x.undo(), 4);
        due("count(9)", x.count(9), 17);
        x.set(HostileHouses.LAPS, 20);
        due("count(13)", x.count(13), 5);
        due("undo()", x.undo(), 4);
        due("count(9)", x.count(9), 17);
        due("undo()", x.undo(), 3);
        due("count(9)", x.count(9), 16);
    }

    private static void undone(String name, HostileHouses x, ToIntFunction<HostileHouses> change) {
        String before = game(x);
        int recorded = x.count(13);
        due(name + " returns no error", change.applyAsInt(x) >= 0 ? 1 : 0, 1);
        due(name + " is recorded", x.count(13), Math.min(6, recorded + 1));
        due("undo of " + name, x.undo(), Math.min(6, recorded + 1) - 1);
        due("as it was ahead of " + name, game(x).equals(before) ? 1 : 0, 1);
    }

    private static void save() {
        HostileHouses x = new HostileHouses();
        tells("save(0)", x, y -> y.save(0), 0);
        x.move(2);
        tells("save(1)", x, y -> y.save(1), 1);
        due("restore(0)", x.restore(0), 0);
        due("restore(1)", x.restore(1), 1);
        x.play(1);
        x.play(1);
        due("save(0) again", x.save(0), 3);
        x.begin();
        due("what was there is overwritten", x.restore(0), 3);
        due("the other slot is not", x.restore(1), 1);
        for (int slot : new int[] {-1, 2, Integer.MIN_VALUE, Integer.MAX_VALUE}) {
            error("save(" + slot + ")", busy(), y -> y.save(slot), -2);
        }
        due("the slots of two objects", new HostileHouses().restore(0), -5);
    }

    private static void restore() {
        HostileHouses x = busy();
        String saved = game(x);
        x.set(HostileHouses.TOLL, 3);
        x.play(1);
        x.play(1);
        String later = game(x);
        due("restore(1)", x.restore(1), 7);
        due("all is as it was saved", game(x).equals(saved) ? 1 : 0, 1);
        due("the pad stays", x.count(12), 5);
        due("a change: undo()", x.undo(), 5);
        due("as ahead of restore()", game(x).equals(later) ? 1 : 0, 1);
        x.begin();
        due("the slot keeps it", x.restore(1), 7);
        x.play(2);
        due("the slot keeps it still", x.restore(1), 7);
        due("all is as it was saved", game(x).equals(saved) ? 1 : 0, 1);
        x.wipe();
        x.restore(1);
        due("the pad stays empty", x.count(12), 0);
        x = over();
        x.save(0);
        x.begin();
        x.restore(0);
        due("count(1)", x.count(1), 1);
        x = new HostileHouses();
        x.save(0);
        due("count(13)", x.count(13), 0);
        x.restore(0);
        due("recorded, though nothing is different", x.count(13), 1);

        error("nothing was saved", new HostileHouses(), y -> y.restore(0), -5);
        error("nothing was saved in this one", busy(), y -> y.restore(0), -5);
        for (int slot : new int[] {-1, 2, Integer.MIN_VALUE, Integer.MAX_VALUE}) {
            error("restore(" + slot + ")", busy(), y -> y.restore(slot), -2);
        }
    }

    public static void main(String[] args) {
        Runnable[] promises = {PromisesTest::aNewObject, PromisesTest::set, PromisesTest::begin, PromisesTest::move,
            PromisesTest::play, PromisesTest::read, PromisesTest::house, PromisesTest::count, PromisesTest::last,
            PromisesTest::moved, PromisesTest::ifMove, PromisesTest::worth, PromisesTest::best,
            PromisesTest::movesLeft, PromisesTest::put, PromisesTest::wipe, PromisesTest::fault, PromisesTest::undo,
            PromisesTest::save, PromisesTest::restore};
        for (Runnable one : promises) {
            promise++;
            one.run();
        }
        System.out.println(wrong == 0 ? "all promises are kept" : wrong + " answers are not as due");
        if (wrong != 0) {
            System.exit(1);
        }
    }
}
