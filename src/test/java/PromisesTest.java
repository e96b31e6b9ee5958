import java.io.IOException;

/** The promises of the document, sentence by sentence: the last methods list them, each with its test. */
public final class PromisesTest extends Checks {
    private static final int LEAST = Integer.MIN_VALUE;
    private static final int MOST = Integer.MAX_VALUE;
    private static final String ZEROS = "0,0,0,0,0,0,0,0,0,0,0,0/0,0/0";

    // ---- 1: a new object

    private static void firstSettings() {
        HostileHouses x = new HostileHouses();
        counts(x, 0, 0, -6, 0, 0, 48, 0, 4, 3, 6, 1, 0, 0, 0);
        seeds(x, 4, 4, 4, 4, 4, 4, 4, 4, 4, 4, 4, 4);
        visits(x, 0, 0, 0, 0, 0, 0, 0, 0, 0, 0, 0, 0);
        last(x, -6, -6, -6, -6, -6);
        due("moved(0)", x.moved(0), -1);
        due("an empty pad: fault()", x.fault(), 0);
        due("an empty history: undo()", x.undo(), -5);
        due("an empty slot: restore(0)", x.restore(0), -5);
        due("an empty slot: restore(1)", x.restore(1), -5);
        // objects share nothing
        HostileHouses other = busy();
        other.set(HostileHouses.SEEDS, 9);
        counts(x, 0, 0, -6, 0, 0, 48, 0, 4, 3, 6, 1, 0, 0, 0);
        counts(new HostileHouses(), 0, 0, -6, 0, 0, 48, 0, 4, 3, 6, 1, 0, 0, 0);
        due("another object's slot: restore(1)", x.restore(1), -5);
    }

    // ---- 2: set

    private static void gameGoesOnBySetting() {
        HostileHouses x = single(13);
        due("count(11)", x.count(11), 0);
        x.set(HostileHouses.VISITS, 2);
        due("VISITS at once: count(11)", x.count(11), 1);
        x.set(HostileHouses.VISITS, 1);
        due("VISITS at once: count(11)", x.count(11), 12);
        x.set(HostileHouses.VISITS, 3);
        due("VISITS at once: count(11)", x.count(11), 0);
        due("the game goes on: count(6)", x.count(6), 13);
        x = new HostileHouses();
        x.set(HostileHouses.LAPS, 0);
        due("LAPS at once: ifMove(2, 0)", x.ifMove(2, 0), 1);
        due("LAPS at once: move(2)", x.move(2), 1);
        x = withHostileHouses(6, 1, 0);
        x.set(HostileHouses.TOLL, 3);
        due("TOLL at once: ifMove(4, 3)", x.ifMove(4, 3), 3);
        x.set(HostileHouses.TOLL, 0);
        due("TOLL at once: ifMove(4, 3)", x.ifMove(4, 3), 0);
        x = over();
        x.set(HostileHouses.LAPS, 1);
        due("a game that is over stays so: count(1)", x.count(1), 1);
    }

    private static void seedsMatterForTheNextGame() {
        HostileHouses x = new HostileHouses();
        x.set(HostileHouses.SEEDS, 7);
        due("this game: count(5)", x.count(5), 48);
        due("this game: house(0, 0)", x.house(0, 0), 4);
        due("this game: worth(0)", x.worth(0), 10000);
        x.begin();
        due("the next one: count(5)", x.count(5), 84);
        x.begin();
        due("the one behind it: count(5)", x.count(5), 84);
        write(x, "1,0,0,0,0,0,0,0,0,0,0,3/0,0/0");
        due("a game of the pad: read()", x.read(), 4);
        due("count(7)", x.count(7), 7);
    }

    private static void setIsAChange() {
        for (int setting = 0; setting < 4; setting++) {
            int one = setting;
            change("set(" + one + ", 3)", HostileHouses::new, x -> x.set(one, 3));
            change("set(" + one + ", 2), a full history", Checks::busy, x -> x.set(one, 2));
        }
        change("set to what it is", HostileHouses::new, x -> x.set(HostileHouses.VISITS, 3));
        change("set in a game that is over", Checks::over, x -> x.set(HostileHouses.LAPS, 20));
        noChange("set(0, 10)", HostileHouses::new, x -> x.set(0, 10));
        noChange("set(4, 1)", HostileHouses::new, x -> x.set(4, 1));
    }

    private static void previousValue() {
        int[] first = {4, 3, 6, 1};
        HostileHouses x = new HostileHouses();
        for (int setting = 0; setting < 4; setting++) {
            due("the first value", x.set(setting, 2), first[setting]);
            due("the one set before", x.set(setting, 3), 2);
            due("what it is", x.set(setting, 3), 3);
        }
        x = new HostileHouses();
        x.set(HostileHouses.LAPS, 0);
        due("a value of 0", x.set(HostileHouses.LAPS, 20), 0);
        x.undo();
        due("behind undo()", x.set(HostileHouses.LAPS, 1), 0);
    }

    private static void noSuchSettingOrValue() {
        for (int setting : new int[] {LEAST, -1, 4, MOST}) {
            for (int value : new int[] {LEAST, -1, 0, 1, 3, 10, MOST}) {
                leaves("set(" + setting + ", " + value + ")", Checks::busy, x -> x.set(setting, value), -2);
            }
        }
        int[][] outOfRange = {{0, 0, 10}, {1, 0, 10}, {2, -1, 21}, {3, -1, 4}};
        for (int[] one : outOfRange) {
            for (int value : new int[] {one[1], one[2], LEAST, MOST}) {
                leaves("set(" + one[0] + ", " + value + ")", Checks::busy, x -> x.set(one[0], value), -2);
            }
        }
    }

    // ---- 3: begin

    private static void beginBegins() {
        HostileHouses x = busy();
        x.begin();
        counts(x, 0, 0, -6, 0, 0, 48, 0, 4, 1, 6, 1, 0, 5, 6);
        seeds(x, 4, 4, 4, 4, 4, 4, 4, 4, 4, 4, 4, 4);
        last(x, -6, -6, -6, -6, -6);
        due("moved(0)", x.moved(0), -1);
        x = over();
        x.begin();
        counts(x, 0, 0, -6, 0, 0, 48, 0);
        for (int each : new int[] {1, 9}) {
            x.set(HostileHouses.SEEDS, each);
            x.begin();
            due("SEEDS " + each + ": count(5)", x.count(5), 12 * each);
            due("SEEDS " + each + ": house(11, 0)", x.house(11, 0), each);
        }
    }

    private static void beginIsAChange() {
        change("begin()", Checks::busy, HostileHouses::begin);
        change("begin() of a new object", HostileHouses::new, HostileHouses::begin);
        change("begin() in a game that is over", Checks::over, HostileHouses::begin);
    }

    private static void movesOfTheOneBefore() {
        due("no move", new HostileHouses().begin(), 0);
        due("one move", single(1).begin(), 1);
        due("the most moves", single(300).begin(), 300);
        due("over at once", over().begin(), 0);
        HostileHouses x = busy();
        due("moves", x.begin(), 7);
        due("of the one before alone", x.begin(), 0);
        x.undo();
        x.undo();
        due("behind undo()", x.begin(), 7);
    }

    // ---- 4: move

    private static void moveIsMade() {
        HostileHouses x = at("1,1,0,3,0,0,0,0,0,0,0,9/0,0/0");
        due("move(0)", x.move(0), 3);
        seeds(x, 0, 0, 1, 0, 1, 1, 1, 1, 0, 0, 0, 9);
        last(x, 0, 3, 7, 0, 0);
        visits(x, 0, 1, 0, 1, 0, 0, 0, 1, 0, 0, 0, 0);
        due("count(0)", x.count(0), 1);
        due("count(6)", x.count(6), 1);
        due("moved(0)", x.moved(0), 0);
        x.set(HostileHouses.VISITS, 1);
        x.undo();
        x.undo();
        x.set(HostileHouses.VISITS, 1);
        due("a visit that makes a house hostile lets the move go on: move(0)", x.move(0), 3);
        due("count(11)", x.count(11), 3);
    }

    private static void moveIsAChange() {
        change("move(2)", HostileHouses::new, x -> x.move(2));
        change("move(best)", Checks::busy, x -> x.move(x.best(1)));
        change("a move that ends the game", () -> at("0,0,1,0,0,0,0,0,1,0,0,0/4,6/0"), x -> x.move(2));
        noChange("move(6)", HostileHouses::new, x -> x.move(6));
    }

    private static void lapsOfAMove() {
        HostileHouses x = at("1,1,0,3,0,0,0,0,0,0,0,9/0,0/0");
        x.set(HostileHouses.LAPS, 0);
        due("LAPS 0: move(0)", x.move(0), 1);
        x.undo();
        x.set(HostileHouses.LAPS, 1);
        due("LAPS 1: move(0)", x.move(0), 2);
        x.undo();
        x.set(HostileHouses.LAPS, 20);
        due("LAPS 20: move(0)", x.move(0), 3);
    }

    private static void moveOfNoHouse() {
        for (int house : new int[] {LEAST, -1, 12, MOST}) {
            leaves("move(" + house + ")", Checks::busy, x -> x.move(house), -1);
            leaves("move(" + house + "), over", Checks::over, x -> x.move(house), -1);
        }
    }

    private static void moveIsNotPossible() {
        for (int i = 0; i < 12; i++) {
            int house = i;
            leaves("over: move(" + house + ")", Checks::over, x -> x.move(house), -5);
        }
        for (int i = 0; i < 6; i++) {
            int house = i;
            leaves("not own: move(" + (house + 6) + ")", HostileHouses::new, x -> x.move(house + 6), -5);
            leaves("not own: move(" + house + ")", () -> at("1,1,1,1,1,1,1,1,1,1,1,1/0,0/1"), x -> x.move(house), -5);
        }
        leaves("no seeds: move(0)", () -> at("0,1,0,0,0,0,0,0,0,0,1,1/0,0/0"), x -> x.move(0), -5);
        leaves("no seeds: move(5)", () -> at("0,1,0,0,0,0,0,0,0,0,1,1/0,0/0"), x -> x.move(5), -5);
        leaves("no seeds: move(6)", () -> at("0,1,0,0,0,0,0,0,0,0,1,1/0,0/1"), x -> x.move(6), -5);
        HostileHouses x = at(SINGLE_SEED);
        x.move(0);
        due("emptied by the last move: move(0)", x.move(0), -5);
        due("one seed: move(1)", x.move(1), 1);
    }

    // ---- 5: play

    private static void bestMove() {
        HostileHouses x = at("9,0,1,0,1,0,0,2,4,0,0,9/0,0/0");
        due("the greatest capture: play(1)", x.play(1), 2);
        last(x, 2, 1, 3, 5, 0);
        due("count(6)", x.count(6), 1);
        due("moved(0)", x.moved(0), 2);
        x = at("9,0,1,0,1,0,5,2,4,0,0,9/0,0/0");
        due("the greatest capture: play(1)", x.play(1), 4);
        x = captureOrTakeCare();
        due("play(1)", x.play(1), 0);
        due("last(3)", x.last(3), 5);
        x.undo();
        due("play(2)", x.play(2), 2);
        due("last(3)", x.last(3), 0);
    }

    private static void lowestOfSeveral() {
        for (int depth = 1; depth <= 4; depth++) {
            HostileHouses x = at("1,0,0,1,0,0,0,0,0,0,0,0/5,5/0");
            due("two of the same worth: play(" + depth + ")", x.play(depth), 0);
            x = at("0,0,0,0,0,1,0,0,0,0,0,0/5,5/0");
            due("just the last one: play(" + depth + ")", x.play(depth), 5);
            x = at("0,0,0,0,0,0,0,0,0,0,0,1/5,5/1");
            due("just the last one: play(" + depth + ")", x.play(depth), 11);
        }
        // 1 and 3 capture the same, 0 and 4 nothing
        HostileHouses x = oneLapAt("1,1,0,1,0,1,0,3,9,3,0,9/0,0/0");
        due("ifMove(1, 4)", x.ifMove(1, 4), 10004);
        due("ifMove(3, 4)", x.ifMove(3, 4), 10004);
        due("play(1)", x.play(1), 1);
        // all have the same worth below 10000
        x = oneLapAt("1,1,1,1,1,1,9,0,0,0,0,0/0,9/0");
        due("play(1)", x.play(1), 0);
    }

    private static void playIsAChange() {
        for (int i = 1; i <= 4; i++) {
            int depth = i;
            change("play(" + depth + ")", HostileHouses::new, x -> x.play(depth));
            change("play(" + depth + "), a full history", Checks::busy, x -> x.play(depth));
            noChange("play(" + depth + "), over", Checks::over, x -> x.play(depth));
        }
    }

    private static void depthsOfPlay() {
        int[] inThree = {9, 9, 11, 11};
        int[] inFour = {9, 9, 9, 10};
        for (int depth = 1; depth <= 4; depth++) {
            due("a capture in three moves: play(" + depth + ")", captureInThree().play(depth), inThree[depth - 1]);
            due("a capture in four moves: play(" + depth + ")", captureInFour().play(depth), inFour[depth - 1]);
        }
        due("a capture in one move: play(1)", captureOrTakeCare().play(1), 0);
        due("a capture in two moves: play(2)", captureOrTakeCare().play(2), 2);
    }

    private static void playIsNotPossible() {
        for (int depth : new int[] {LEAST, -1, 0, 5, MOST}) {
            leaves("play(" + depth + ")", Checks::busy, x -> x.play(depth), -2);
            leaves("play(" + depth + "), over", Checks::over, x -> x.play(depth), -2);
        }
        for (int i = 1; i <= 4; i++) {
            int depth = i;
            leaves("over: play(" + depth + ")", Checks::over, x -> x.play(depth), -5);
        }
        HostileHouses x = single(299);
        due("the 300th move: play(4)", x.play(4), 11);
        due("behind it: play(1)", x.play(1), -5);
    }

    // ---- 6: read

    private static void readBegins() {
        HostileHouses x = busy();
        x.wipe();
        write(x, "0,1,2,3,4,5,6,7,8,9,10,99/11,12/1");
        due("read()", x.read(), 177);
        seeds(x, 0, 1, 2, 3, 4, 5, 6, 7, 8, 9, 10, 99);
        visits(x, 0, 0, 0, 0, 0, 0, 0, 0, 0, 0, 0, 0);
        counts(x, 1, 0, -6, 11, 12, 177, 0, 4, 1, 6, 1, 0);
        last(x, -6, -6, -6, -6, -6);
        due("moved(0)", x.moved(0), -1);
        x = over();
        write(x, "1,0,0,0,0,0,0,0,0,0,0,3/0,0/0");
        x.read();
        due("behind a game that is over: count(1)", x.count(1), 0);
        due("move(0)", x.move(0), 1);
    }

    private static void readEmptiesThePad() {
        HostileHouses x = pad(ZEROS);
        due("count(12)", x.count(12), 29);
        x.read();
        due("behind read(): count(12)", x.count(12), 0);
        due("behind read(): fault()", x.fault(), 0);
        due("behind read(): read()", x.read(), -3);
        x.undo();
        due("behind undo(): count(12)", x.count(12), 0);
        x = pad(ZEROS + "0");
        due("refused: read()", x.read(), -3);
        due("refused: count(12)", x.count(12), 30);
    }

    private static void readOfAGameThatIsOver() {
        HostileHouses x = at("0,0,0,0,0,0,0,0,0,0,0,0/3,2/1");
        counts(x, 1, 1, 0, 3, 2, 5, 0);
        x = at("0,0,0,0,0,0,0,0,0,0,0,0/3,3/0");
        counts(x, 0, 1, 2, 3, 3, 6, 0);
        x = at(ZEROS);
        counts(x, 0, 1, 2, 0, 0, 0, 0);
        x = at("0,0,0,0,0,0,0,0,0,0,0,0/0,0/1");
        counts(x, 1, 1, 2, 0, 0, 0, 0);
        // more than half, and half
        x = at("2,0,0,0,0,0,0,0,0,0,0,3/0,6/0");
        counts(x, 0, 1, 1, 2, 9, 11, 0);
        seeds(x, 0, 0, 0, 0, 0, 0, 0, 0, 0, 0, 0, 0);
        x = at("2,0,0,0,0,0,0,0,0,0,0,3/6,0/1");
        counts(x, 1, 1, 0, 8, 3, 11, 0);
        x = at("2,0,0,0,0,0,0,0,0,0,0,3/0,5/0");
        counts(x, 0, 0, -6, 0, 5, 10, 0);
        x = at("2,0,0,0,0,0,0,0,0,0,0,3/5,0/1");
        counts(x, 1, 0, -6, 5, 0, 10, 0);
        x = at("2,0,0,0,0,0,0,0,0,0,0,4/6,0/0");
        due("6 of 12: count(1)", x.count(1), 0);
        due("6 of 11: count(1)", at("2,0,0,0,0,0,0,0,0,0,0,3/6,0/0").count(1), 1);
        // the player of the pad is to move, though without seeds
        x = at("0,0,0,0,0,0,0,0,0,0,0,3/6,0/0");
        counts(x, 0, 1, 0, 6, 3, 9, 0);
        x = at("3,0,0,0,0,0,0,0,0,0,0,0/0,6/1");
        counts(x, 1, 1, 1, 3, 6, 9, 0);
        due("a game that is over: begin()", x.begin(), 0);
    }

    private static void readGivesTheTurn() {
        due("player 0 has no seeds: count(0)", at("0,0,0,0,0,0,0,0,0,0,0,3/0,0/0").count(0), 1);
        due("player 0 has one: count(0)", at("0,0,0,0,0,1,0,0,0,0,0,3/0,0/0").count(0), 0);
        due("player 1 has no seeds: count(0)", at("0,0,0,0,0,3,0,0,0,0,0,0/0,0/1").count(0), 0);
        due("player 1 has one: count(0)", at("0,0,0,0,0,3,1,0,0,0,0,0/0,0/1").count(0), 1);
        due("the other one has none: count(0)", at("0,0,0,0,0,3,0,0,0,0,0,0/0,0/0").count(0), 0);
        due("half of all in the store: count(0)", at("0,0,0,0,0,0,0,0,0,0,0,3/3,0/0").count(0), 1);
    }

    private static void readIsAChange() {
        change("read()", () -> pad("1,1,1,1,1,1,1,1,1,1,1,1/2,3/1"), HostileHouses::read);
        change("read() of a game that is over", () -> pad(ZEROS), HostileHouses::read);
        noChange("read() of a fault", Checks::busy, HostileHouses::read);
    }

    private static void seedsOfAll() {
        due("none: read()", pad(ZEROS).read(), 0);
        due("the stores alone: read()", pad("0,0,0,0,0,0,0,0,0,0,0,0/3,2/1").read(), 5);
        due("the houses alone: read()", pad("1,2,3,4,5,6,7,8,9,10,11,12/0,0/1").read(), 78);
        due("the most: read()", pad("99,99,99,99,99,99,99,99,99,99,99,99/99,99/0").read(), 1386);
        due("over at once: read()", pad("2,0,0,0,0,0,0,0,0,0,0,3/0,6/0").read(), 11);
    }

    private static void readOfAFault() {
        String[] texts = {"", "0", "0,0,0,0,0,0,0,0,0,0,0,0/0,0/", "0,0,0,0,0,0,0,0,0,0,0,0/0,0/2", ZEROS + "0",
            ZEROS + ",", "0,0,0,0,0,0,0,0,0,0,0,0/0,100/0", "00,0,0,0,0,0,0,0,0,0,0,0/0,0/0",
            "0,0,0,0,0,0,0,0,0,0,0/0,0/0", "0,0,0,0,0,0,0,0,0,0,0,0,0/0,0/0", "0,0,0,0,0,0,0,0,0,0,0,0/0/0",
            "0,0,0,0,0,0,0,0,0,0,0,-1/0,0/0", "~".repeat(60)};
        for (String text : texts) {
            leaves("read() of \"" + text + "\"", () -> pad(text), HostileHouses::read, -3);
        }
        leaves("a fault in a game: read()", Checks::busy, HostileHouses::read, -3);
        leaves("an empty pad, over: read()", Checks::over, HostileHouses::read, -3);
    }

    // ---- 7: house

    private static void aboutAHouse() {
        HostileHouses x = at("0,1,2,3,4,5,6,7,8,9,10,99/0,0/0");
        seeds(x, 0, 1, 2, 3, 4, 5, 6, 7, 8, 9, 10, 99);
        visits(x, 0, 0, 0, 0, 0, 0, 0, 0, 0, 0, 0, 0);
        due("over: house(11, 0)", at("0,0,0,0,0,0,0,0,0,0,0,3/6,0/0").house(11, 0), 0);
        x = single(300);
        visits(x, 25, 25, 25, 25, 25, 25, 25, 25, 25, 25, 25, 25);
    }

    private static void whatOfAHouse() {
        HostileHouses x = single(25);
        due("house(0, 0)", x.house(0, 0), 0);
        due("house(0, 1)", x.house(0, 1), 2);
        due("house(0, 2)", x.house(0, 2), 0);
        due("house(1, 0)", x.house(1, 0), 1);
        due("house(1, 1)", x.house(1, 1), 3);
        due("house(1, 2)", x.house(1, 2), 1);
        x.set(HostileHouses.VISITS, 2);
        due("house(11, 2)", x.house(11, 2), 1);
        due("house(0, 2)", x.house(0, 2), 1);
    }

    private static void noSuchHouse() {
        for (int house : new int[] {LEAST, -1, 12, MOST}) {
            leaves("house(" + house + ", 0)", Checks::busy, x -> x.house(house, 0), -1);
            leaves("house(" + house + ", 3)", Checks::busy, x -> x.house(house, 3), -1);
            leaves("house(" + house + ", -1)", Checks::busy, x -> x.house(house, -1), -1);
        }
        for (int what : new int[] {LEAST, -1, 3, MOST}) {
            leaves("house(0, " + what + ")", Checks::busy, x -> x.house(0, what), -2);
            leaves("house(11, " + what + ")", Checks::busy, x -> x.house(11, what), -2);
        }
    }

    // ---- 8: count

    private static void whatIsCounted() {
        HostileHouses x = withHostileHouses(3, 1, 0);
        x.move(4);
        write(x, "12,3");
        // the read, three settings and three moves: one more than the history keeps
        counts(x, 1, 0, -6, 0, 1, 23, 3, 4, 1, 0, 1, 2, 4, 6);
        whoWins();
        x = single(12);
        x.set(HostileHouses.VISITS, 1);
        due("all houses are hostile: count(11)", x.count(11), 12);
        x.set(HostileHouses.VISITS, 2);
        due("no house is hostile: count(11)", x.count(11), 0);
        due("a full pad: count(12)", fullPad().count(12), 60);
        due("the most seeds: count(5)", at("99,99,99,99,99,99,99,99,99,99,99,99/99,99/1").count(5), 1386);
        due("no seeds: count(5)", at(ZEROS).count(5), 0);
        due("the most moves: count(6)", single(300).count(6), 300);
        x = new HostileHouses();
        for (int changes = 1; changes <= 8; changes++) {
            x.set(HostileHouses.TOLL, 1);
            due(changes + " changes: count(13)", x.count(13), Math.min(changes, 6));
        }
    }

    private static void whoWins() {
        due("not over: count(2)", at("9,0,0,0,0,0,0,0,0,0,0,0/4,5/0").count(2), -6);
        due("player 0: count(2)", over().count(2), 0);
        due("player 1: count(2)", at("0,0,0,0,0,0,0,0,0,0,0,0/2,3/0").count(2), 1);
        due("nobody: count(2)", at("0,0,0,0,0,0,0,0,0,0,0,0/3,3/0").count(2), 2);
    }

    private static void noSuchCount() {
        for (int what : new int[] {LEAST, -1, 14, MOST}) {
            leaves("count(" + what + ")", Checks::busy, x -> x.count(what), -2);
        }
    }

    // ---- 9: last

    private static void latestMove() {
        HostileHouses x = at("1,1,0,3,0,0,0,0,0,0,0,9/0,0/0");
        x.move(0);
        last(x, 0, 3, 7, 0, 0);
        x.move(7);
        last(x, 7, 1, 8, 0, 0);
        x.undo();
        last(x, 0, 3, 7, 0, 0);
        x.begin();
        x.undo();
        last(x, 0, 3, 7, 0, 0);
        x.ifMove(11, 0);
        x.best(2);
        x.movesLeft(1);
        last(x, 0, 3, 7, 0, 0);
    }

    private static void whatOfTheLatestMove() {
        HostileHouses x = at("9,0,1,0,0,0,0,0,4,0,0,9/0,0/0");
        x.move(2);
        last(x, 2, 1, 3, 5, 0);
        x = withHostileHouses(5, 3, 0);
        x.move(4);
        last(x, 4, 1, 6, 0, 3);
        // the seeds that go into the stores at the end are not captured
        x = at("0,0,1,0,0,1,0,0,4,0,0,2/5,5/0");
        x.move(2);
        last(x, 2, 1, 3, 5, 0);
        stores(x, 11, 7);
        // a toll in the last one of three laps
        x = at("0,0,0,0,2,0,10,0,0,0,0,0/0,0/0");
        x.set(HostileHouses.VISITS, 1);
        x.move(4);
        last(x, 4, 3, 6, 0, 1);
        x = single(300);
        last(x, 11, 1, 0, 0, 0);
    }

    private static void noMoveYet() {
        HostileHouses x = new HostileHouses();
        last(x, -6, -6, -6, -6, -6);
        x.move(2);
        due("one move: last(0)", x.last(0), 2);
        x.undo();
        last(x, -6, -6, -6, -6, -6);
        x.move(2);
        x.begin();
        last(x, -6, -6, -6, -6, -6);
        x.move(2);
        write(x, SINGLE_SEED);
        x.read();
        last(x, -6, -6, -6, -6, -6);
        last(over(), -6, -6, -6, -6, -6);
        for (int what : new int[] {LEAST, -1, 5, MOST}) {
            leaves("last(" + what + ")", Checks::busy, y -> y.last(what), -2);
            leaves("last(" + what + "), no move", HostileHouses::new, y -> y.last(what), -2);
        }
    }

    // ---- 10: moved

    private static void movesOfThisGame() {
        HostileHouses x = at(SINGLE_SEED);
        for (int move = 0; move < 20; move++) {
            due("the next move: moved(" + move + ")", x.moved(move), -1);
            x.move(move % 12);
            due("the latest move: moved(" + move + ")", x.moved(move), move % 12);
        }
        due("the first move: moved(0)", x.moved(0), 0);
        due("moved(13)", x.moved(13), 1);
        x = single(300);
        due("the first of 300: moved(0)", x.moved(0), 0);
        due("moved(150)", x.moved(150), 6);
        due("the last of 300: moved(299)", x.moved(299), 11);
        due("moved(300)", x.moved(300), -1);
    }

    private static void noSuchMove() {
        due("no move: moved(0)", new HostileHouses().moved(0), -1);
        for (int move : new int[] {LEAST, -1, 7, 299, 300, MOST}) {
            leaves("7 moves: moved(" + move + ")", Checks::busy, x -> x.moved(move), -1);
        }
        HostileHouses x = single(20);
        x.undo();
        due("undone: moved(19)", x.moved(19), -1);
        due("moved(18)", x.moved(18), 6);
        x.begin();
        due("a game begun: moved(0)", x.moved(0), -1);
        x.move(5);
        due("moved(0)", x.moved(0), 5);
        due("of the game before: moved(1)", x.moved(1), -1);
        x.undo();
        x.undo();
        due("that game again: moved(18)", x.moved(18), 6);
        due("its first move: moved(0)", x.moved(0), 0);
        write(x, SINGLE_SEED);
        x.read();
        due("a game read: moved(0)", x.moved(0), -1);
    }

    // ---- 11: ifMove

    private static void whatAMoveWouldBring() {
        HostileHouses x = at("1,1,0,3,0,0,0,0,0,0,0,9/0,0/0");
        due("ifMove(0, 0)", x.ifMove(0, 0), 3);
        due("ifMove(0, 1)", x.ifMove(0, 1), 7);
        x.set(HostileHouses.LAPS, 1);
        due("ifMove(0, 0)", x.ifMove(0, 0), 2);
        due("ifMove(0, 1)", x.ifMove(0, 1), 3);
        due("nothing changes: count(6)", x.count(6), 0);
    }

    private static void askedOfMove(HostileHouses x, int house, int... want) {
        for (int what = 0; what < want.length; what++) {
            due("ifMove(" + house + ", " + what + ")", x.ifMove(house, what), want[what]);
        }
    }

    private static void whatOfAMove() {
        // the end of the game: the seed of house 5 goes into the store, and isn't captured
        askedOfMove(at("0,0,1,0,0,1,0,0,4,0,0,0/4,0/0"), 2, 1, 3, 5, 0, 10006, 1, 1);
        // player 0 pays 3; the store of the player stays
        askedOfMove(withHostileHouses(5, 3, 0), 4, 1, 6, 0, 3, 10000, 1, 0);
        // the same player moves again
        askedOfMove(at("1,0,0,0,0,0,0,0,0,0,0,0/5,5/0"), 0, 1, 1, 0, 0, 10000, 0, 0);
        // the player 1
        askedOfMove(at("9,0,0,0,0,4,0,0,9,0,1,0/0,0/1"), 10, 1, 11, 10, 0, 10010, 0, 0);
        // the last house of three laps, and a toll in the last one
        HostileHouses x = at("0,0,0,0,2,0,10,0,0,0,0,0/0,0/0");
        x.set(HostileHouses.VISITS, 1);
        askedOfMove(x, 4, 3, 6, 0, 1, 10000, 1, 0);
        // the 300th move
        askedOfMove(single(298), 10, 1, 11, 0, 0, 10000, 1, 0);
        askedOfMove(single(299), 11, 1, 0, 0, 0, 10000, 0, 1);
    }

    private static void ifMoveIsRefused() {
        for (int house : new int[] {LEAST, -1, 12, MOST}) {
            leaves("ifMove(" + house + ", 0)", Checks::busy, x -> x.ifMove(house, 0), -1);
            leaves("ifMove(" + house + ", 7)", Checks::busy, x -> x.ifMove(house, 7), -1);
            leaves("ifMove(" + house + ", 0), over", Checks::over, x -> x.ifMove(house, 0), -1);
        }
        for (int what : new int[] {LEAST, -1, 0, 6, 7, MOST}) {
            leaves("not own: ifMove(6, " + what + ")", HostileHouses::new, x -> x.ifMove(6, what), -5);
            leaves("no seeds: ifMove(1, " + what + ")", () -> at(SINGLE_SEED), x -> x.ifMove(1, what), -5);
            leaves("over: ifMove(0, " + what + ")", Checks::over, x -> x.ifMove(0, what), -5);
        }
        for (int what : new int[] {LEAST, -1, 7, MOST}) {
            leaves("ifMove(0, " + what + ")", HostileHouses::new, x -> x.ifMove(0, what), -2);
        }
    }

    // ---- 12: worth

    private static void worthOfThePosition() {
        HostileHouses x = at("0,0,1,0,0,1,0,0,4,0,0,0/4,0/0");
        int[] wins = {10004, 10010, 10010, 10010, 10010};
        for (int depth = 0; depth <= 4; depth++) {
            due("worth(" + depth + ")", x.worth(depth), wins[depth]);
        }
        x = at("0,0,0,0,0,0,0,0,0,0,1,0/9,8/1");
        due("for player 1: worth(0)", x.worth(0), 9999);
        due("for player 1, then player 0: worth(3)", x.worth(3), 9999);
        x = captureOrTakeCare();
        due("worth(1)", x.worth(1), 10005);
        due("worth(2)", x.worth(2), 10000);
        x.play(1);
        due("worth(0)", x.worth(0), 9995);
        due("worth(1)", x.worth(1), 10004);
        x = at("0,0,0,0,0,0,0,0,0,0,0,0/0,99/0");
        due("the least for two stores: worth(0)", x.worth(0), 9901);
        x = at("0,0,0,0,0,0,99,99,99,99,99,99/99,0/0");
        due("all but one house: worth(0)", x.worth(0), 9901);
    }

    private static void depthsOfWorth() {
        HostileHouses x = at("1,0,0,0,0,0,0,0,0,0,0,2/9,0/0");
        for (int depth = 0; depth <= 4; depth++) {
            due("over: worth(" + depth + ")", x.worth(depth), 10008);
        }
        int[] inThree = {10000, 10000, 10000, 10002, 10002};
        int[] inFour = {10000, 10000, 10000, 10000, 10002};
        for (int depth = 0; depth <= 4; depth++) {
            due("a capture in three moves: worth(" + depth + ")", captureInThree().worth(depth), inThree[depth]);
            due("a capture in four moves: worth(" + depth + ")", captureInFour().worth(depth), inFour[depth]);
        }
        x = captureOrTakeCare();
        due("depth 0: worth(0)", x.worth(0), 10000);
        due("depth 1: worth(1)", x.worth(1), 10005);
        due("depth 2: worth(2)", x.worth(2), 10000);
    }

    private static void noSuchDepthOfWorth() {
        for (int depth : new int[] {LEAST, -1, 5, MOST}) {
            leaves("worth(" + depth + ")", Checks::busy, x -> x.worth(depth), -2);
            leaves("worth(" + depth + "), over", Checks::over, x -> x.worth(depth), -2);
        }
    }

    // ---- 13: best

    private static void houseOfPlay() {
        due("best(1)", at("9,0,1,0,1,0,0,2,4,0,0,9/0,0/0").best(1), 2);
        due("best(1)", at("9,0,1,0,1,0,5,2,4,0,0,9/0,0/0").best(1), 4);
        due("best(1)", captureOrTakeCare().best(1), 0);
        due("best(2)", captureOrTakeCare().best(2), 2);
        for (int depth = 1; depth <= 4; depth++) {
            due("of several the lowest", at("1,0,0,1,0,0,0,0,0,0,0,0/5,5/0").best(depth), 0);
            due("the only one", at("0,0,0,0,0,0,0,0,1,0,0,0/5,5/1").best(depth), 8);
        }
    }

    private static void depthsOfBest() {
        int[] inThree = {9, 9, 11, 11};
        int[] inFour = {9, 9, 9, 10};
        for (int depth = 1; depth <= 4; depth++) {
            due("a capture in three moves: best(" + depth + ")", captureInThree().best(depth), inThree[depth - 1]);
            due("a capture in four moves: best(" + depth + ")", captureInFour().best(depth), inFour[depth - 1]);
            HostileHouses x = new HostileHouses();
            for (int move = 0; move < 6; move++) {
                int told = x.best(depth);
                due("best(" + depth + ") changes nothing", x.count(6), move);
                due("play(" + depth + ")", x.play(depth), told);
            }
        }
    }

    private static void noBest() {
        for (int depth : new int[] {LEAST, -1, 0, 5, MOST}) {
            leaves("best(" + depth + ")", Checks::busy, x -> x.best(depth), -2);
            leaves("best(" + depth + "), over", Checks::over, x -> x.best(depth), -2);
        }
        for (int depth = 1; depth <= 4; depth++) {
            due("over: best(" + depth + ")", over().best(depth), -6);
            due("300 moves: best(" + depth + ")", single(300).best(depth), -6);
            due("299 moves: best(" + depth + ")", single(299).best(depth), 11);
        }
    }

    // ---- 14: movesLeft

    private static void movesUntilTheEnd() {
        for (int depth = 1; depth <= 2; depth++) {
            HostileHouses x = new HostileHouses();
            int told = x.movesLeft(depth);
            int made = 0;
            while (x.count(1) == 0 && made < 300) {
                if (made % 10 == 0) {
                    due("movesLeft(" + depth + ") behind " + made, x.movesLeft(depth), told - made);
                }
                x.play(depth);
                made++;
            }
            due("movesLeft(" + depth + ") of a new game", told, made);
            due("over: movesLeft(" + depth + ")", x.movesLeft(depth), 0);
        }
    }

    private static void depthsOfMovesLeft() {
        for (int depth = 1; depth <= 2; depth++) {
            due("over at once: movesLeft(" + depth + ")", over().movesLeft(depth), 0);
            due("the next one ends it: movesLeft(" + depth + ")",
                at("0,0,1,0,0,0,0,0,1,0,0,0/4,6/0").movesLeft(depth), 1);
            due("300 moves: movesLeft(" + depth + ")", at(SINGLE_SEED).movesLeft(depth), 300);
            due("299 moves: movesLeft(" + depth + ")", single(1).movesLeft(depth), 299);
            due("the 300th move: movesLeft(" + depth + ")", single(299).movesLeft(depth), 1);
            due("behind it: movesLeft(" + depth + ")", single(300).movesLeft(depth), 0);
        }
    }

    private static void noSuchDepthOfMovesLeft() {
        for (int depth : new int[] {LEAST, -1, 0, 3, MOST}) {
            leaves("movesLeft(" + depth + ")", Checks::busy, x -> x.movesLeft(depth), -2);
            leaves("movesLeft(" + depth + "), over", Checks::over, x -> x.movesLeft(depth), -2);
        }
    }

    // ---- 15: put

    private static void appends() {
        HostileHouses x = new HostileHouses();
        due("put(\"1\")", x.put('1'), 1);
        due("put(\",2\")", x.put(packed(",2")), 3);
        due("put(\",3,4,5,6\")", x.put(packed(",3,4,5,6")), 11);
        due("put(\",7,8,9,\")", x.put(packed(",7,8,9,")), 18);
        due("put(\"10,11,12\")", x.put(packed("10,11,12")), 26);
        due("put(\"/13,14/1\")", x.put(packed("/13,14/1")), 34);
        due("not a change: count(13)", x.count(13), 0);
        x.read();
        seeds(x, 1, 2, 3, 4, 5, 6, 7, 8, 9, 10, 11, 12);
        stores(x, 13, 14);
        x = busy();
        x.undo();
        due("undo leaves the pad", x.count(12), 5);
    }

    private static void lowestBitsAreTheLast() {
        due("'1' and ','", new HostileHouses().put('1' << 8 | ','), 2);
        HostileHouses x = new HostileHouses();
        x.put('1' << 8 | ',');
        due("\"1,\": fault()", x.fault(), 2);
        x = new HostileHouses();
        x.put(',' << 8 | '1');
        due("\",1\": fault()", x.fault(), 0);
    }

    private static void zerosMeanNoMore() {
        String eight = "12345678";
        for (int length = 1; length <= 8; length++) {
            long characters = packed(eight.substring(0, length));
            due("put of " + length, new HostileHouses().put(characters), length);
            for (int hole = 0; hole < length - 1; hole++) {
                long holed = characters & ~(255L << 8 * hole);
                leaves("put(" + holed + ")", HostileHouses::new, x -> x.put(holed), -2);
            }
            for (int bit = 8 * length + 8; bit < 64; bit++) {
                long more = characters | 1L << bit;
                leaves("put(" + more + ")", HostileHouses::new, x -> x.put(more), -2);
            }
        }
    }

    private static void oneToEight() {
        due("one: put()", new HostileHouses().put('~'), 1);
        due("eight: put()", new HostileHouses().put(packed("~!~!~!~!")), 8);
        leaves("none: put(0)", Checks::busy, x -> x.put(0), -2);
    }

    private static void codes() {
        for (int place = 0; place < 8; place++) {
            int shift = 8 * place;
            long others = packed("!!!!!!!!") >>> 64 - shift;
            others = place == 0 ? 0 : others;
            long below = others;
            due("code 33: put()", new HostileHouses().put(below | 33L << shift), place + 1);
            due("code 126: put()", new HostileHouses().put(below | 126L << shift), place + 1);
            for (long code : new long[] {1, 10, 31, 32, 127, 128, 160, 255}) {
                long characters = below | code << shift;
                leaves("put(" + characters + ")", Checks::busy, x -> x.put(characters), -2);
            }
        }
        for (long characters : new long[] {-1, Long.MIN_VALUE, Long.MAX_VALUE}) {
            leaves("put(" + characters + ")", Checks::busy, x -> x.put(characters), -2);
            leaves("a full pad: put(" + characters + ")", Checks::fullPad, x -> x.put(characters), -2);
        }
        leaves("a full pad: put(0)", Checks::fullPad, x -> x.put(0), -2);
        leaves("a full pad: put(32)", Checks::fullPad, x -> x.put(32), -2);
    }

    private static void tooMany() {
        for (int length = 52; length <= 60; length++) {
            String text = "~".repeat(length);
            for (int more = 1; more <= 8; more++) {
                long characters = packed("12345678".substring(0, more));
                HostileHouses x = pad(text);
                due(length + " and " + more, x.put(characters), length + more <= 60 ? length + more : -4);
                due(length + " and " + more + ": count(12)", x.count(12), length + more <= 60 ? length + more : length);
            }
        }
        leaves("60 and 1", Checks::fullPad, x -> x.put('1'), -4);
        // what is refused leaves no character
        HostileHouses x = pad(ZEROS.substring(0, 28) + "1");
        x.put(' ');
        x.put(0);
        x.put(-1);
        x.put(packed("1 "));
        due("behind wrong ones: read()", x.read(), 0);
        due("behind wrong ones: count(0)", x.count(0), 1);
    }

    // ---- 16: wipe

    private static void wiped() {
        due("an empty pad: wipe()", new HostileHouses().wipe(), 0);
        due("a full pad: wipe()", fullPad().wipe(), 60);
        HostileHouses x = pad("12,");
        due("wipe()", x.wipe(), 3);
        due("count(12)", x.count(12), 0);
        due("fault()", x.fault(), 0);
        due("wipe() again", x.wipe(), 0);
        due("put() behind it", x.put('1'), 1);
        due("what stood there is gone: fault()", x.fault(), 1);
        noChange("wipe()", Checks::busy, HostileHouses::wipe);
        x = busy();
        x.wipe();
        same("the game behind wipe()", game(x), game(busy()));
        x = fullPad();
        x.wipe();
        write(x, ZEROS);
        due("a pad that was full: read()", x.read(), 0);
    }

    // ---- 17: fault

    private static void faultOrNone() {
        due("none: fault()", pad(ZEROS).fault(), -6);
        due("none: fault()", pad("99,99,99,99,99,99,99,99,99,99,99,99/99,99/1").fault(), -6);
        due("the first character: fault()", pad("x").fault(), 0);
        due("an empty pad: fault()", new HostileHouses().fault(), 0);
        due("too short: fault()", pad(ZEROS.substring(0, 28)).fault(), 28);
        due("too long: fault()", pad(ZEROS + "0").fault(), 29);
        due("a full pad: fault()", fullPad().fault(), 0);
        due("a full pad, ends too early: fault()", pad("1,".repeat(30)).fault(), 23);
        leaves("fault()", Checks::busy, HostileHouses::fault, 4);
        HostileHouses x = pad(ZEROS);
        due("none: fault()", x.fault(), -6);
        due("again: fault()", x.fault(), -6);
        x.put('1');
        due("one more: fault()", x.fault(), 29);
    }

    // ---- 18: undo

    private static void undoneButPadAndSlots() {
        HostileHouses x = busy();
        String before = game(x);
        x.play(1);
        x.save(0);
        String saved = game(x);
        write(x, ",7");
        x.undo();
        same("behind undo()", game(x), before);
        due("the pad stays: count(12)", x.count(12), 7);
        due("the slot stays: restore(0)", x.restore(0), 8);
        same("the slot stays", game(x), saved);
        x.undo();
        same("behind undo() of restore()", game(x), before);
        x = pad(ZEROS);
        x.read();
        x.undo();
        due("the pad that was read stays empty: count(12)", x.count(12), 0);
        x = new HostileHouses();
        x.save(0);
        x.move(0);
        x.undo();
        due("a slot of before: restore(0)", x.restore(0), 0);
        latestMoveAndRecordComeBack();
        // wiping isn't undone
        x = busy();
        x.wipe();
        x.undo();
        due("count(12)", x.count(12), 0);
    }

    private static void latestMoveAndRecordComeBack() {
        HostileHouses x = captureOrTakeCare();
        x.move(0);
        x.move(8);
        last(x, 8, 1, 9, 9, 0);
        x.undo();
        last(x, 0, 1, 1, 5, 0);
        x.begin();
        x.move(2);
        x.undo();
        x.undo();
        last(x, 0, 1, 1, 5, 0);
        due("moved(0)", x.moved(0), 0);
        due("moved(1)", x.moved(1), -1);
        x = withHostileHouses(5, 3, 0);
        x.move(4);
        x.save(0);
        x.move(11);
        last(x, 11, 1, 9, 2, 0);
        x.undo();
        last(x, 4, 1, 6, 0, 3);
        due("moved(2)", x.moved(2), 4);
    }

    private static void atMostSixStates() {
        for (int changes = 0; changes <= 8; changes++) {
            HostileHouses x = new HostileHouses();
            for (int change = 1; change <= changes; change++) {
                x.set(HostileHouses.LAPS, change + 6);
            }
            int kept = Math.min(changes, 6);
            due(changes + " changes: count(13)", x.count(13), kept);
            for (int left = kept - 1; left >= 0; left--) {
                due(changes + " changes: undo()", x.undo(), left);
                due(changes + " changes, " + left + " left: count(9)", x.count(9), changes - kept + left + 6);
            }
            due(changes + " changes: undo()", x.undo(), -5);
        }
    }

    private static void everyChangeIsRecorded() {
        change("set()", HostileHouses::new, x -> x.set(2, 5));
        change("begin()", HostileHouses::new, HostileHouses::begin);
        change("move()", HostileHouses::new, x -> x.move(3));
        change("play()", HostileHouses::new, x -> x.play(2));
        change("read()", () -> pad(SINGLE_SEED), HostileHouses::read);
        change("restore()", Checks::busy, x -> x.restore(0));
        noChange("put()", HostileHouses::new, x -> x.put('1'));
        noChange("wipe()", HostileHouses::new, HostileHouses::wipe);
        noChange("save()", HostileHouses::new, x -> x.save(0));
        noChange("ifMove()", HostileHouses::new, x -> x.ifMove(0, 0));
        noChange("worth()", HostileHouses::new, x -> x.worth(2));
        noChange("best()", HostileHouses::new, x -> x.best(2));
        noChange("movesLeft()", HostileHouses::new, x -> x.movesLeft(1));
        // refused ones
        noChange("set()", HostileHouses::new, x -> x.set(2, 21));
        noChange("move()", HostileHouses::new, x -> x.move(12));
        noChange("play()", HostileHouses::new, x -> x.play(5));
        noChange("read()", HostileHouses::new, HostileHouses::read);
        noChange("restore()", HostileHouses::new, x -> x.restore(0));
        nothingIsDifferent();
    }

    private static void nothingIsDifferent() {
        HostileHouses x = new HostileHouses();
        x.save(1);
        x.begin();
        due("a new game again: count(13)", x.count(13), 1);
        x.set(HostileHouses.SEEDS, 4);
        due("a setting as it is: count(13)", x.count(13), 2);
        x.restore(1);
        due("a state as it is: count(13)", x.count(13), 3);
        write(x, "4,4,4,4,4,4,4,4,4,4,4,4/0,0/0");
        x.read();
        due("a position as it is: count(13)", x.count(13), 4);
        for (int left = 3; left >= 0; left--) {
            due("undo()", x.undo(), left);
            counts(x, 0, 0, -6, 0, 0, 48, 0, 4, 3, 6, 1, 0, 0, left);
        }
    }

    private static void oldestIsDropped() {
        HostileHouses x = new HostileHouses();
        for (int value = 0; value < 20; value++) {
            x.set(HostileHouses.LAPS, value);
        }
        due("undo()", x.undo(), 5);
        due("undo()", x.undo(), 4);
        due("count(9)", x.count(9), 17);
        x.set(HostileHouses.LAPS, 20);
        due("recorded behind undo(): count(13)", x.count(13), 5);
        x.set(HostileHouses.LAPS, 19);
        due("the sixth: count(13)", x.count(13), 6);
        x.set(HostileHouses.LAPS, 18);
        due("the seventh: count(13)", x.count(13), 6);
        int[] values = {19, 20, 17, 16, 15, 14};
        for (int i = 0; i < 6; i++) {
            due("undo()", x.undo(), 5 - i);
            due("count(9)", x.count(9), values[i]);
        }
        due("undo()", x.undo(), -5);
    }

    private static void changesThatCanBeUndone() {
        leaves("none: undo()", HostileHouses::new, HostileHouses::undo, -5);
        HostileHouses x = single(1);
        due("one is left: undo()", x.undo(), 1);
        due("none is left: undo()", x.undo(), 0);
        due("none: undo()", x.undo(), -5);
        due("as at first: count(5)", x.count(5), 48);
        due("none, again: undo()", x.undo(), -5);
        x.begin();
        due("one more: undo()", x.undo(), 0);
        due("six: undo()", busy().undo(), 5);
    }

    // ---- 19: save

    private static void saved() {
        HostileHouses x = busy();
        x.save(0);
        String saved = game(x);
        x.set(HostileHouses.TOLL, 3);
        x.play(2);
        x.wipe();
        int recorded = x.count(13);
        x.save(1);
        due("save() is no change: count(13)", x.count(13), recorded);
        x.restore(0);
        same("what was saved", game(x), saved);
        due("the pad is not saved: count(12)", x.count(12), 0);
        due("the history is not saved: undo()", x.undo(), 5);
        due("count(10)", x.count(10), 3);
        due("the slots are not saved: restore(1)", x.restore(1), 8);
        // what comes later does not reach what was saved
        x = new HostileHouses();
        x.save(0);
        x.move(0);
        x.set(HostileHouses.LAPS, 0);
        x.restore(0);
        counts(x, 0, 0, -6, 0, 0, 48, 0, 4, 3, 6, 1, 0, 0, 3);
    }

    private static void overwritten() {
        HostileHouses x = single(1);
        x.save(0);
        x.save(1);
        x.move(1);
        due("save(0) again", x.save(0), 2);
        x.begin();
        due("what was there is overwritten: restore(0)", x.restore(0), 2);
        due("the other slot is not: restore(1)", x.restore(1), 1);
    }

    private static void slotsOfSave() {
        HostileHouses x = new HostileHouses();
        due("save(0)", x.save(0), 0);
        due("the other one is empty: restore(1)", x.restore(1), -5);
        x = new HostileHouses();
        due("save(1)", x.save(1), 0);
        due("the other one is empty: restore(0)", x.restore(0), -5);
    }

    private static void movesOfSave() {
        due("no moves: save(0)", new HostileHouses().save(0), 0);
        due("one move: save(1)", single(1).save(1), 1);
        due("the most moves: save(0)", single(300).save(0), 300);
        due("over at once: save(0)", over().save(0), 0);
        for (int slot : new int[] {LEAST, -1, 2, MOST}) {
            leaves("save(" + slot + ")", Checks::busy, x -> x.save(slot), -2);
            leaves("save(" + slot + ")", HostileHouses::new, x -> x.save(slot), -2);
        }
    }

    // ---- 20: restore

    private static void restored() {
        HostileHouses x = busy();
        String saved = game(x);
        x.set(HostileHouses.TOLL, 3);
        x.play(1);
        due("restore(1)", x.restore(1), 7);
        same("what was saved", game(x), saved);
        due("the pad stays: count(12)", x.count(12), 5);
        x.begin();
        due("the slot keeps it: restore(1)", x.restore(1), 7);
        x.play(2);
        x.undo();
        due("the slot keeps it still: restore(1)", x.restore(1), 7);
        same("what was saved", game(x), saved);
        x.save(1);
        due("the last one: restore(1)", x.restore(1), 7);
        latestMoveAndRecordAreRestored();
        x = over();
        x.save(0);
        x.begin();
        due("a game that is over: restore(0)", x.restore(0), 0);
        counts(x, 1, 1, 0, 10, 2, 12, 0);
    }

    private static void latestMoveAndRecordAreRestored() {
        HostileHouses x = captureOrTakeCare();
        x.move(0);
        x.save(0);
        x.begin();
        x.move(2);
        last(x, 2, 1, 6, 0, 0);
        x.restore(0);
        last(x, 0, 1, 1, 5, 0);
        due("moved(0)", x.moved(0), 0);
        x = withHostileHouses(5, 3, 0);
        x.move(4);
        x.save(0);
        x.move(11);
        x.restore(0);
        last(x, 4, 1, 6, 0, 3);
        due("moved(2)", x.moved(2), 4);
        due("moved(3)", x.moved(3), -1);
    }

    private static void restoreIsAChange() {
        change("restore(0)", Checks::busy, x -> x.restore(0));
        change("restore(1), nothing is different", Checks::busy, x -> x.restore(1));
        noChange("restore(2)", Checks::busy, x -> x.restore(2));
        noChange("restore(0), nothing saved", HostileHouses::new, x -> x.restore(0));
    }

    private static void slotsOfRestore() {
        HostileHouses x = single(2);
        x.save(0);
        x.move(2);
        x.save(1);
        due("restore(0)", x.restore(0), 2);
        due("restore(1)", x.restore(1), 3);
    }

    private static void movesOfRestore() {
        HostileHouses x = single(300);
        x.save(0);
        x.begin();
        x.save(1);
        due("no moves: restore(1)", x.restore(1), 0);
        due("the most moves: restore(0)", x.restore(0), 300);
        due("moved(299)", x.moved(299), 11);
        due("count(1)", x.count(1), 1);
        due("move(0)", x.move(0), -5);
        for (int slot : new int[] {LEAST, -1, 2, MOST}) {
            leaves("restore(" + slot + ")", Checks::busy, y -> y.restore(slot), -2);
            leaves("restore(" + slot + "), nothing saved", HostileHouses::new, y -> y.restore(slot), -2);
        }
        leaves("nothing saved: restore(0)", Checks::over, y -> y.restore(0), -5);
        leaves("nothing saved: restore(1)", Checks::over, y -> y.restore(1), -5);
    }

    // ---- the document, sentence by sentence

    public static void main(String[] args) throws IOException {
        changes();
        whatThereIs();
        whatIf();
        textsAndStates();
        end("all promises are kept");
    }

    private static void changes() throws IOException {
        new Part("## Promise 1: A new object")
            .says("`HostileHouses()`:")
            .holds("Begins a game with the first settings.", PromisesTest::firstSettings)
            .end();
        new Part("## Promise 2: set")
            .says("`int set(int setting, int value)`:")
            .holds("Changes a setting; the game goes on by it", PromisesTest::gameGoesOnBySetting)
            .holds("(SEEDS matters for the next game alone).", PromisesTest::seedsMatterForTheNextGame)
            .holds("This is a change.", PromisesTest::setIsAChange)
            .holds("Returns the previous value;", PromisesTest::previousValue)
            .holds("BAD_VALUE if there is no such setting, or the value is out of its range.",
                PromisesTest::noSuchSettingOrValue)
            .end();
        new Part("## Promise 3: begin")
            .says("`int begin()`:")
            .holds("Begins a game.", PromisesTest::beginBegins)
            .holds("This is a change.", PromisesTest::beginIsAChange)
            .holds("Returns how many moves were made in the one before.", PromisesTest::movesOfTheOneBefore)
            .end();
        new Part("## Promise 4: move")
            .says("`int move(int house)`:")
            .holds("The player to move makes a move.", PromisesTest::moveIsMade)
            .holds("This is a change.", PromisesTest::moveIsAChange)
            .holds("Returns how many laps it had;", PromisesTest::lapsOfAMove)
            .holds("NO_SUCH if there is no such house;", PromisesTest::moveOfNoHouse)
            .holds("NOT_POSSIBLE if the game is over, the house is not the player's, or has no seeds.",
                PromisesTest::moveIsNotPossible)
            .end();
        new Part("## Promise 5: play")
            .says("`int play(int depth)`:")
            .holds("The player to move makes the best move by a depth: one behind which the worth of the position is "
                + "the greatest,", PromisesTest::bestMove)
            .holds("of several the one from the house with the lowest number.", PromisesTest::lowestOfSeveral)
            .holds("This is a change.", PromisesTest::playIsAChange)
            .holds("- `depth`: 1 to 4", PromisesTest::depthsOfPlay)
            .holds("Returns the house; BAD_VALUE if depth is out of range; NOT_POSSIBLE if the game is over.",
                PromisesTest::playIsNotPossible)
            .end();
        new Part("## Promise 6: read")
            .says("`int read()`:")
            .holds("Begins a game with the position of the pad (without visits),", PromisesTest::readBegins)
            .holds("and empties the pad.", PromisesTest::readEmptiesThePad)
            .holds("If all houses are empty, or one of the stores has more than half of all seeds, it is over at once, "
                + "as behind a move (the player of the pad is said to be to move);", PromisesTest::readOfAGameThatIsOver)
            .holds("otherwise, if the player to move has no seeds in its own houses, the other one is to move.",
                PromisesTest::readGivesTheTurn)
            .holds("This is a change.", PromisesTest::readIsAChange)
            .holds("Returns the seeds of all houses and stores together;", PromisesTest::seedsOfAll)
            .holds("BAD_TEXT if the pad has a fault.", PromisesTest::readOfAFault)
            .end();
    }

    private static void whatThereIs() throws IOException {
        new Part("## Promise 7: house")
            .says("`int house(int house, int what)`:")
            .holds("Returns something about a house.", PromisesTest::aboutAHouse)
            .holds("- `what`: 0 its seeds, 1 its visits, 2 whether it is hostile (1 or 0)", PromisesTest::whatOfAHouse)
            .holds("Returns the number; NO_SUCH if there is no such house; BAD_VALUE if what is out of range.",
                PromisesTest::noSuchHouse)
            .end();
        new Part("## Promise 8: count")
            .says("`int count(int what)`: Returns a number.")
            .holds("- `what`: 0 the player to move, 1 whether the game is over (1 or 0), 2 who wins (0, 1, or 2 for "
                + "nobody; NONE if it is not over), 3, 4 the seeds in the stores of the players 0 and 1, 5 all seeds, "
                + "in houses and stores, 6 moves that were made, 7 to 10 the settings, 11 houses that are hostile, 12 "
                + "the length of the pad, 13 how many changes can be undone", PromisesTest::whatIsCounted)
            .holds("Returns the number; BAD_VALUE if what is out of range.", PromisesTest::noSuchCount)
            .end();
        new Part("## Promise 9: last")
            .says("`int last(int what)`:")
            .holds("Returns something about the latest move of this game.", PromisesTest::latestMove)
            .holds("- `what`: 0 the house from which it began, 1 its laps, 2 the last house of its last lap, 3 seeds "
                + "that were captured (from both houses), 4 tolls that were paid, in seeds",
                PromisesTest::whatOfTheLatestMove)
            .holds("Returns the number; BAD_VALUE if what is out of range; NONE if no move was made.",
                PromisesTest::noMoveYet)
            .end();
        new Part("## Promise 10: moved")
            .says("`int moved(int move)`: Returns the house from which a move of this game began.")
            .holds("- `move`: 0 for the first one", PromisesTest::movesOfThisGame)
            .holds("Returns the house; NO_SUCH if there is no such move.", PromisesTest::noSuchMove)
            .end();
    }

    private static void whatIf() throws IOException {
        new Part("## Promise 11: ifMove")
            .says("`int ifMove(int house, int what)`:")
            .holds("Tells what a move would bring.", PromisesTest::whatAMoveWouldBring)
            .holds("- `what`: 0 its laps, 1 the last house, 2 seeds that are captured, 3 tolls, in seeds, 4 the seeds of "
                + "the player's store behind it less those ahead of it, and 10000, 5 the player to move behind it, 6 "
                + "whether the game is over then (1 or 0)", PromisesTest::whatOfAMove)
            .holds("Returns the number; NO_SUCH and NOT_POSSIBLE as for move(); BAD_VALUE if what is out of range.",
                PromisesTest::ifMoveIsRefused)
            .end();
        new Part("## Promise 12: worth")
            .says("`int worth(int depth)`:")
            .holds("Returns the worth of the position for the player to move.", PromisesTest::worthOfThePosition)
            .holds("- `depth`: 0 to 4", PromisesTest::depthsOfWorth)
            .holds("Returns the worth, and 10000; BAD_VALUE if depth is out of range.", PromisesTest::noSuchDepthOfWorth)
            .end();
        new Part("## Promise 13: best")
            .says("`int best(int depth)`:")
            .holds("Returns the house from which play() would move.", PromisesTest::houseOfPlay)
            .holds("- `depth`: 1 to 4", PromisesTest::depthsOfBest)
            .holds("Returns the house; BAD_VALUE if depth is out of range; NONE if the game is over.",
                PromisesTest::noBest)
            .end();
        new Part("## Promise 14: movesLeft")
            .says("`int movesLeft(int depth)`:")
            .holds("Tells how many moves there would be, from now on, until the game is over, if both players made the "
                + "best moves by a depth.", PromisesTest::movesUntilTheEnd)
            .holds("- `depth`: 1 or 2", PromisesTest::depthsOfMovesLeft)
            .holds("Returns how many; BAD_VALUE if depth is neither.", PromisesTest::noSuchDepthOfMovesLeft)
            .end();
    }

    private static void textsAndStates() throws IOException {
        new Part("## Promise 15: put")
            .says("`int put(long characters)`:")
            .holds("Appends characters to the pad.", PromisesTest::appends)
            .holds("They are given as a number: its lowest 8 bits are the last character, the next 8 bits the one "
                + "before, and so on;", PromisesTest::lowestBitsAreTheLast)
            .holds("8 bits that are 0 mean that there are no more characters, and everything above them has to be 0, "
                + "too.", PromisesTest::zerosMeanNoMore)
            .holds("- `characters`: 1 to 8 characters", PromisesTest::oneToEight)
            .holds("Returns the length of the pad then; BAD_VALUE if there is no character, a code is not 33 to 126, or "
                + "a bit above 8 bits that are 0 is not 0;", PromisesTest::codes)
            .holds("TOO_MANY if the pad would be longer than 60.", PromisesTest::tooMany)
            .end();
        new Part("## Promise 16: wipe")
            .says("`int wipe()`:")
            .holds("Empties the pad, and returns the length that it had.", PromisesTest::wiped)
            .end();
        new Part("## Promise 17: fault")
            .says("`int fault()`:")
            .holds("Returns the fault of the pad, NONE if there is none.", PromisesTest::faultOrNone)
            .end();
        new Part("## Promise 18: undo")
            .says("`int undo()`:")
            .holds("Undoes the latest change: everything except the pad, the slots and the history is as it was before "
                + "it.", PromisesTest::undoneButPadAndSlots)
            .holds("A history of at most 6 states is kept:", PromisesTest::atMostSixStates)
            .holds("each method that is a change, and returns no error, records the state before it (also if nothing is "
                + "different then);", PromisesTest::everyChangeIsRecorded)
            .holds("when one more is recorded, the oldest one is dropped.", PromisesTest::oldestIsDropped)
            .holds("Returns how many changes can be undone then; NOT_POSSIBLE if there is none.",
                PromisesTest::changesThatCanBeUndone)
            .end();
        new Part("## Promise 19: save")
            .says("`int save(int slot)`:")
            .holds("Saves everything except the pad, the history and the slots in a slot,", PromisesTest::saved)
            .holds("and overwrites what was saved there.", PromisesTest::overwritten)
            .holds("- `slot`: 0 or 1", PromisesTest::slotsOfSave)
            .holds("Returns how many moves were made; BAD_VALUE if there is no such slot.", PromisesTest::movesOfSave)
            .end();
        new Part("## Promise 20: restore")
            .says("`int restore(int slot)`:")
            .holds("Restores what was saved last in a slot, which keeps it.", PromisesTest::restored)
            .holds("This is a change.", PromisesTest::restoreIsAChange)
            .holds("- `slot`: 0 or 1", PromisesTest::slotsOfRestore)
            .holds("Returns how many moves were made then; BAD_VALUE if there is no such slot; NOT_POSSIBLE if nothing "
                + "was saved in it.", PromisesTest::movesOfRestore)
            .end();
    }
}
