import java.io.IOException;
import java.util.function.Supplier;
import java.util.function.ToIntFunction;

/** The terms of the document, sentence by sentence: main lists them, each with its test. */
public final class TermsTest extends Checks {
    private static final int LEAST = Integer.MIN_VALUE;
    private static final int MOST = Integer.MAX_VALUE;

    // ---- conventions

    private static void errorCodes() {
        due("NO_SUCH: house(12, 0)", new HostileHouses().house(12, 0), -1);
        due("BAD_VALUE: house(0, 3)", new HostileHouses().house(0, 3), -2);
        due("BAD_TEXT: read()", new HostileHouses().read(), -3);
        due("TOO_MANY: put('1')", fullPad().put('1'), -4);
        due("NOT_POSSIBLE: undo()", new HostileHouses().undo(), -5);
    }

    private static void firstErrorThatApplies() {
        due("no such house, and over: move(12)", over().move(12), -1);
        due("no such house, over, what: ifMove(-1, 7)", over().ifMove(-1, 7), -1);
        due("over, what: ifMove(0, 7)", over().ifMove(0, 7), -5);
        due("of the other player, what: ifMove(6, -1)", new HostileHouses().ifMove(6, -1), -5);
        due("no seeds, what: ifMove(1, 7)", at(SINGLE_SEED).ifMove(1, 7), -5);
        due("depth, over: play(5)", over().play(5), -2);
        due("depth, over: play(0)", over().play(0), -2);
        due("no such house, what: house(12, 3)", new HostileHouses().house(12, 3), -1);
        due("a wrong code, a full pad: put(' ')", fullPad().put(' '), -2);
        due("no character, a full pad: put(0)", fullPad().put(0), -2);
        due("no such slot, nothing saved: restore(2)", new HostileHouses().restore(2), -2);
    }

    private static void refusedCallsChangeNothing() {
        int ownOfBusy = busy().best(1);
        refused(Checks::busy, 11 - ownOfBusy);
        refused(Checks::over, 0);
        refused(HostileHouses::new, 6);
        leaves("a full pad: put('1')", Checks::fullPad, x -> x.put('1'), -4);
        leaves("a full pad: put(0)", Checks::fullPad, x -> x.put(0), -2);
        leaves("nothing to undo: undo()", HostileHouses::new, HostileHouses::undo, -5);
        leaves("nothing saved: restore(0)", Checks::over, x -> x.restore(0), -5);
        leaves("over: play(4)", Checks::over, x -> x.play(4), -5);
        leaves("over: move(0)", Checks::over, x -> x.move(0), -5);
        leaves("over: ifMove(0, 0)", Checks::over, x -> x.ifMove(0, 0), -5);
    }

    /** The calls that are refused whatever the settings are, if the pad has a fault; the house is not the player's. */
    private static void refused(Supplier<HostileHouses> made, int notOwn) {
        for (int wrong : new int[] {LEAST, -1, 12, MOST}) {
            leaves("move(" + wrong + ")", made, x -> x.move(wrong), -1);
            leaves("house(" + wrong + ", 0)", made, x -> x.house(wrong, 0), -1);
            leaves("ifMove(" + wrong + ", 0)", made, x -> x.ifMove(wrong, 0), -1);
            leaves("moved(" + wrong + ")", made, x -> x.moved(wrong), -1);
        }
        leaves("move(" + notOwn + ")", made, x -> x.move(notOwn), -5);
        leaves("ifMove(" + notOwn + ", 0)", made, x -> x.ifMove(notOwn, 0), -5);
        for (int wrong : new int[] {LEAST, -1, 14, MOST}) {
            leaves("set(" + wrong + ", 2)", made, x -> x.set(wrong, 2), -2);
            leaves("set(0, " + wrong + ")", made, x -> x.set(0, wrong), -2);
            leaves("house(0, " + wrong + ")", made, x -> x.house(0, wrong), -2);
            leaves("count(" + wrong + ")", made, x -> x.count(wrong), -2);
            leaves("last(" + wrong + ")", made, x -> x.last(wrong), -2);
            leaves("play(" + wrong + ")", made, x -> x.play(wrong), -2);
            leaves("worth(" + wrong + ")", made, x -> x.worth(wrong), -2);
            leaves("best(" + wrong + ")", made, x -> x.best(wrong), -2);
            leaves("movesLeft(" + wrong + ")", made, x -> x.movesLeft(wrong), -2);
            leaves("save(" + wrong + ")", made, x -> x.save(wrong), -2);
            leaves("restore(" + wrong + ")", made, x -> x.restore(wrong), -2);
        }
        for (long wrong : new long[] {0, 32, 127, -1}) {
            leaves("put(" + wrong + ")", made, x -> x.put(wrong), -2);
        }
        leaves("read()", made, HostileHouses::read, -3);
    }

    private static void noneIsNoError() {
        due("NONE: last(0)", new HostileHouses().last(0), -6);
        due("an error: last(5)", new HostileHouses().last(5), -2);
        due("an error: last(-1)", new HostileHouses().last(-1), -2);
        due("NONE: best(1)", over().best(1), -6);
        due("an error: best(0)", over().best(0), -2);
        due("an error: best(5)", over().best(5), -2);
        due("NONE: count(2)", new HostileHouses().count(2), -6);
        due("an error: count(14)", new HostileHouses().count(14), -2);
    }

    private static void numberedFromZero() {
        HostileHouses x = at("1,2,3,4,5,6,7,8,9,10,11,12/0,0/0");
        due("the first house", x.house(0, 0), 1);
        due("the last house", x.house(11, 0), 12);
        due("behind the last house", x.house(12, 0), -1);
        x.move(5);
        due("the first move", x.moved(0), 5);
        due("behind the last move", x.moved(1), -1);
        due("the first slot", x.save(0), 1);
        due("the last slot", x.save(1), 1);
        due("behind the last slot", x.save(2), -2);
        due("the first setting", x.set(0, 4), 4);
        due("the last setting", x.set(3, 1), 1);
        due("behind the last setting", x.set(4, 1), -2);
    }

    // ---- settings

    private static HostileHouses range(int setting, int lowest, int highest, int first) {
        HostileHouses x = new HostileHouses();
        due("the first value", x.count(7 + setting), first);
        due("the lowest value", x.set(setting, lowest), first);
        due("it is set", x.count(7 + setting), lowest);
        due("the highest value", x.set(setting, highest), lowest);
        due("it is set", x.count(7 + setting), highest);
        for (int wrong : new int[] {lowest - 1, highest + 1, LEAST, MOST}) {
            due("set(" + setting + ", " + wrong + ")", x.set(setting, wrong), -2);
            due("it stays", x.count(7 + setting), highest);
        }
        for (int other = 0; other < 4; other++) {
            if (other != setting) {
                due("another setting stays", x.count(7 + other), new HostileHouses().count(7 + other));
            }
        }
        due("two changes", x.count(13), 2);
        return x;
    }

    private static void rangeOfSeeds() {
        HostileHouses x = range(HostileHouses.SEEDS, 1, 9, 4);
        x.begin();
        seeds(x, 9, 9, 9, 9, 9, 9, 9, 9, 9, 9, 9, 9);
        x.set(HostileHouses.SEEDS, 1);
        x.begin();
        seeds(x, 1, 1, 1, 1, 1, 1, 1, 1, 1, 1, 1, 1);
    }

    private static void rangeOfVisits() {
        range(HostileHouses.VISITS, 1, 9, 3);
        HostileHouses x = single(96);
        x.set(HostileHouses.VISITS, 9);
        due("8 visits: house(1, 2)", x.house(1, 2), 0);
        x.move(0);
        due("9 visits: house(1, 2)", x.house(1, 2), 1);
        x.set(HostileHouses.VISITS, 1);
        due("8 visits: house(2, 2)", x.house(2, 2), 1);
        x = single(1);
        x.set(HostileHouses.VISITS, 1);
        due("1 visit: house(1, 2)", x.house(1, 2), 1);
        due("no visit: house(2, 2)", x.house(2, 2), 0);
    }

    private static void rangeOfLaps() {
        range(HostileHouses.LAPS, 0, 20, 6);
        HostileHouses x = new HostileHouses();
        x.set(HostileHouses.SEEDS, 9);
        x.set(HostileHouses.VISITS, 9);
        x.begin();
        int[][] limits = {{0, 1}, {1, 2}, {19, 20}, {20, 21}};
        for (int[] limit : limits) {
            x.set(HostileHouses.LAPS, limit[0]);
            due("LAPS " + limit[0] + ": ifMove(0, 0)", x.ifMove(0, 0), limit[1]);
        }
        due("move(0)", x.move(0), 21);
    }

    private static void rangeOfTolls() {
        range(HostileHouses.TOLL, 0, 3, 1);
        for (int toll = 0; toll <= 3; toll++) {
            HostileHouses x = withHostileHouses(6, toll, 0);
            x.move(4);
            due("TOLL " + toll + ": last(4)", x.last(4), toll);
        }
    }

    // ---- houses

    private static void owners() {
        HostileHouses first = at("1,1,1,1,1,1,1,1,1,1,1,1/0,0/0");
        HostileHouses second = at("1,1,1,1,1,1,1,1,1,1,1,1/0,0/1");
        for (int house = 0; house < 12; house++) {
            due("player 0: ifMove(" + house + ", 0) < 0", Math.min(0, first.ifMove(house, 0)), house < 6 ? 0 : -5);
            due("player 1: ifMove(" + house + ", 0) < 0", Math.min(0, second.ifMove(house, 0)), house < 6 ? -5 : 0);
        }
    }

    private static void houseBehind() {
        HostileHouses x = at(SINGLE_SEED);
        for (int move = 0; move < 25; move++) {
            int from = move % 12;
            int behind = from == 11 ? 0 : from + 1;
            due("move(" + from + ")", x.move(from), 1);
            due("house(" + from + ", 0)", x.house(from, 0), 0);
            due("house(" + behind + ", 0)", x.house(behind, 0), 1);
            due("last(2)", x.last(2), behind);
        }
    }

    /** A hand that ends in each house; where the house ahead of it is the other player's, it goes almost around. */
    private static void houseAcross() {
        for (int end = 0; end < 12; end++) {
            boolean around = end % 6 == 0;
            int[] houses = new int[12];
            houses[(end + 2) % 12] = 99;
            houses[11 - end] = 5;
            houses[around ? end + 1 : end - 1] = around ? 11 : 1;
            HostileHouses x = oneLapAt(position(houses, 0, 0, end / 6));
            due("a move that ends in " + end, x.move(around ? end + 1 : end - 1), 1);
            due("last(2)", x.last(2), end);
            due("last(3)", x.last(3), around ? 7 : 6);
            due("house(" + end + ", 0)", x.house(end, 0), 0);
            due("house(" + (11 - end) + ", 0)", x.house(11 - end, 0), 0);
            due("the store", x.count(3 + end / 6), around ? 7 : 6);
            due("count(5)", x.count(5), around ? 115 : 105);
        }
    }

    private static String position(int[] houses, int first, int second, int player) {
        StringBuilder text = new StringBuilder();
        for (int house = 0; house < 12; house++) {
            text.append(houses[house]).append(house == 11 ? '/' : ',');
        }
        return text.append(first).append(',').append(second).append('/').append(player).toString();
    }

    private static void noVisitsAtFirst() {
        HostileHouses x = new HostileHouses();
        visits(x, 0, 0, 0, 0, 0, 0, 0, 0, 0, 0, 0, 0);
        x.move(0);
        visits(x, 0, 0, 2, 0, 1, 0, 0, 0, 1, 0, 0, 0);
        x.begin();
        visits(x, 0, 0, 0, 0, 0, 0, 0, 0, 0, 0, 0, 0);
        x = single(30);
        write(x, SINGLE_SEED);
        x.read();
        visits(x, 0, 0, 0, 0, 0, 0, 0, 0, 0, 0, 0, 0);
    }

    private static void hostile() {
        HostileHouses x = single(24);
        due("one less than VISITS: house(1, 1)", x.house(1, 1), 2);
        due("one less than VISITS: house(1, 2)", x.house(1, 2), 0);
        due("no house: count(11)", x.count(11), 0);
        x.move(0);
        due("VISITS: house(1, 1)", x.house(1, 1), 3);
        due("VISITS: house(1, 2)", x.house(1, 2), 1);
        due("one house: count(11)", x.count(11), 1);
        x = single(37);
        due("one more than VISITS: house(1, 1)", x.house(1, 1), 4);
        due("one more than VISITS: house(1, 2)", x.house(1, 2), 1);
        due("all houses: count(11)", x.count(11), 12);
    }

    private static void gameBegins() {
        HostileHouses x = new HostileHouses();
        seeds(x, 4, 4, 4, 4, 4, 4, 4, 4, 4, 4, 4, 4);
        stores(x, 0, 0);
        due("count(0)", x.count(0), 0);
        x = busy();
        x.set(HostileHouses.SEEDS, 9);
        x.begin();
        seeds(x, 9, 9, 9, 9, 9, 9, 9, 9, 9, 9, 9, 9);
        stores(x, 0, 0);
        visits(x, 0, 0, 0, 0, 0, 0, 0, 0, 0, 0, 0, 0);
        due("count(0)", x.count(0), 0);
        x = at("0,0,0,0,0,0,0,0,0,0,0,1/9,9/1");
        due("player 1 to move", x.count(0), 1);
        x.begin();
        due("player 0 to move", x.count(0), 0);
    }

    // ---- moves: laps

    private static void ownHouseWithSeeds() {
        HostileHouses x = at("0,1,0,0,0,0,1,0,0,0,1,1/0,0/0");
        due("no seeds: move(0)", x.move(0), -5);
        due("of the other player, first: move(6)", x.move(6), -5);
        due("of the other player, last: move(11)", x.move(11), -5);
        due("one seed: move(1)", x.move(1), 1);
        due("of the other player: move(2)", x.move(2), -5);
        due("no seeds: move(7)", x.move(7), -5);
        due("one seed, the last house: move(11)", x.move(11), 1);
    }

    /** Hands that end just ahead of the house from which they began, and just behind it, on each way around. */
    private static void houseOfTheLapGetsNoSeed() {
        int[][] hands = {{10, 10}, {11, 11}, {12, 1}, {13, 2}, {21, 10}, {22, 11}, {23, 1}, {33, 11}, {34, 1}};
        for (int from = 0; from < 12; from++) {
            for (int[] hand : hands) {
                int[] houses = {1, 1, 1, 1, 1, 1, 1, 1, 1, 1, 1, 1};
                houses[from] = hand[0];
                HostileHouses x = oneLapAt(position(houses, 0, 0, from / 6));
                due("move(" + from + ") of " + hand[0], x.move(from), 1);
                due("the house of the lap", x.house(from, 0), 0);
                due("last(2)", x.last(2), (from + hand[1]) % 12);
                for (int steps = 1; steps < 12; steps++) {
                    int each = 1 + hand[0] / 11 + (steps <= hand[0] % 11 ? 1 : 0);
                    due(steps + " behind " + from, x.house((from + steps) % 12, 0), each);
                }
            }
        }
        HostileHouses x = oneLapAt("99,99,99,99,99,99,99,99,99,99,99,99/99,99/0");
        due("the most seeds: move(0)", x.move(0), 1);
        seeds(x, 0, 108, 108, 108, 108, 108, 108, 108, 108, 108, 108, 108);
        due("9 times around: last(2)", x.last(2), 11);
    }

    private static void tolls() {
        for (int toll = 1; toll <= 3; toll++) {
            HostileHouses x = withHostileHouses(toll + 1, toll, 0);
            x.move(4);
            due("as many seeds as TOLL " + toll + ": last(4)", x.last(4), 0);
            x = withHostileHouses(toll + 2, toll, 0);
            x.move(4);
            due("one more than TOLL " + toll + ": last(4)", x.last(4), toll);
            due("one is put: house(6, 0)", x.house(6, 0), 2);
            due("and it is the last: last(2)", x.last(2), 6);
            stores(x, 0, toll);
            due("count(5)", x.count(5), 22 + toll);
        }
        HostileHouses x = withHostileHouses(8, 0, 0);
        x.move(4);
        last(x, 4, 1, 0, 0, 0);
        x = withHostileHouses(1, 0, 0);
        x.move(4);
        due("the hand ends ahead of the hostile house", x.last(2), 5);
        twoHostileHouses();
        ownHostileHouses();
        hostileInTheSameMove();
        due("nobody's house is hostile: last(4)", tollOfNew(3), 0);
    }

    private static int tollOfNew(int toll) {
        HostileHouses x = new HostileHouses();
        x.set(HostileHouses.TOLL, toll);
        x.move(5);
        return x.last(4);
    }

    private static void twoHostileHouses() {
        HostileHouses x = withHostileHouses(8, 1, 0);
        x.move(4);
        due("one seed at the second house: last(4)", x.last(4), 1);
        due("it stays there: last(2)", x.last(2), 11);
        x = withHostileHouses(9, 1, 0);
        x.move(4);
        due("two seeds at the second house: last(4)", x.last(4), 2);
        due("one stays there: last(2)", x.last(2), 11);
        // twice past both: 24, 18, 11 and 5 seeds are in the hand
        x = withHostileHouses(25, 1, 0);
        x.move(4);
        last(x, 4, 1, 2, 0, 4);
        seeds(x, 11, 2, 2, 1, 0, 2, 3, 2, 2, 2, 2, 12);
        stores(x, 0, 4);
        // the other way around: player 1 pays into the store of player 0
        x = oneLapAt("0,1,0,0,0,9,9,0,0,0,0,5/0,0/0");
        x.set(HostileHouses.VISITS, 1);
        x.set(HostileHouses.TOLL, 2);
        x.move(1);
        x.move(11);
        seeds(x, 1, 1, 2, 0, 0, 9, 9, 0, 0, 0, 0, 0);
        stores(x, 2, 0);
        last(x, 11, 1, 2, 0, 2);
    }

    private static void ownHostileHouses() {
        HostileHouses x = withHostileHouses(1, 1, 0);
        x.move(0);
        last(x, 0, 1, 8, 0, 1);
        x.move(11);
        due("10 seeds of player 1 past the own hostile houses 6 and 8: last(4)", x.last(4), 0);
        due("last(2)", x.last(2), 9);
        x = oneLapAt("3,1,0,0,0,0,0,0,0,0,0,9/0,0/0");
        x.set(HostileHouses.VISITS, 1);
        x.move(1);
        x.move(11);
        due("player 1 pays at the hostile house 2: last(4)", x.last(4), 1);
        due("house(2, 2)", x.house(2, 2), 1);
        x.move(0);
        due("4 seeds of player 0 past it: last(4)", x.last(4), 0);
        due("last(2)", x.last(2), 4);
    }

    /** The visit of the first lap makes house 6 hostile; the second lap begins there, the third one pays there. */
    private static void hostileInTheSameMove() {
        HostileHouses x = at("0,0,0,0,2,0,10,0,0,0,0,0/0,0/0");
        x.set(HostileHouses.VISITS, 1);
        due("move(4)", x.move(4), 3);
        last(x, 4, 3, 6, 0, 1);
        seeds(x, 1, 1, 1, 1, 1, 0, 1, 1, 1, 1, 1, 1);
        visits(x, 0, 0, 0, 0, 0, 1, 2, 0, 0, 0, 0, 0);
        stores(x, 0, 1);
    }

    private static void lastHouseIsVisited() {
        HostileHouses x = oneLapAt("3,0,0,0,0,0,0,0,0,0,0,3/0,0/0");
        x.move(0);
        visits(x, 0, 0, 0, 1, 0, 0, 0, 0, 0, 0, 0, 0);
        x.move(11);
        visits(x, 0, 0, 1, 1, 0, 0, 0, 0, 0, 0, 0, 0);
        x = single(13);
        visits(x, 1, 2, 1, 1, 1, 1, 1, 1, 1, 1, 1, 1);
        x = at("1,1,0,3,0,0,0,0,0,0,0,9/0,0/0");
        x.move(0);
        visits(x, 0, 1, 0, 1, 0, 0, 0, 1, 0, 0, 0, 0);
    }

    // ---- moves: behind a lap

    private static void seedsAheadOfTheLastOne() {
        HostileHouses x = at("1,1,0,0,0,0,0,0,0,0,0,9/0,0/0");
        due("one seed: move(0)", x.move(0), 2);
        due("the lap begins in the last house: house(1, 0)", x.house(1, 0), 0);
        due("last(2)", x.last(2), 3);
        due("none: move(0)", at("1,0,0,0,0,0,0,0,0,0,0,9/0,0/0").move(0), 1);
        due("the other player's house: move(5)", at("0,0,0,0,0,1,1,0,0,0,0,0/0,0/0").move(5), 2);
        due("the other player's house, none: move(5)", at("0,0,0,0,0,1,0,1,0,0,0,0/0,0/0").move(5), 1);
        due("one seed of the same lap: move(0)", oneTimeAround(1).move(0), 2);
    }

    /** 12 seeds of house 0 go around to 1, and from there each lap of 2 ends two houses on, in a house with a seed. */
    private static HostileHouses oneTimeAround(int laps) {
        HostileHouses x = at("12,0,0,0,0,0,0,0,0,0,0,0/0,0/0");
        x.set(HostileHouses.LAPS, laps);
        return x;
    }

    private static void fewerThanLaps() {
        int[][] limits = {{0, 1, 1}, {1, 2, 3}, {2, 3, 5}, {3, 4, 7}, {4, 5, 9}, {5, 6, 11}, {6, 7, 1}, {7, 7, 1},
            {20, 7, 1}};
        for (int[] limit : limits) {
            HostileHouses x = oneTimeAround(limit[0]);
            due("LAPS " + limit[0] + ": move(0)", x.move(0), limit[1]);
            due("LAPS " + limit[0] + ": last(2)", x.last(2), limit[2]);
        }
        // each move counts its own
        HostileHouses x = at("1,1,0,0,0,0,1,1,0,0,0,0/0,0/0");
        x.set(HostileHouses.LAPS, 1);
        due("LAPS 1: move(0)", x.move(0), 2);
        due("LAPS 1: move(6)", x.move(6), 2);
    }

    private static void hostileAheadOfItsVisit() {
        for (int limit = 1; limit <= 3; limit++) {
            HostileHouses x = oneLapAt("1,0,0,0,0,0,0,0,0,0,0,2/99,99/0");
            x.move(0);
            x.move(11);
            due("house(1, 1)", x.house(1, 1), 2);
            due("house(1, 0)", x.house(1, 0), 2);
            due("house(0, 0)", x.house(0, 0), 1);
            x.set(HostileHouses.LAPS, 6);
            x.set(HostileHouses.VISITS, limit);
            due("2 visits, VISITS " + limit + ": move(0)", x.move(0), limit == 3 ? 2 : 1);
            due("house(1, 1)", x.house(1, 1), 3);
            due("it is hostile then", x.house(1, 2), 1);
        }
    }

    private static void lastHouseIsOwn() {
        HostileHouses x = at("9,0,0,0,2,3,0,0,9,0,0,0/0,0/0");
        x.move(4);
        due("of the other player: last(3)", x.last(3), 0);
        seeds(x, 9, 0, 0, 0, 0, 4, 1, 0, 9, 0, 0, 0);
        x = at("0,0,0,0,1,0,3,0,9,0,0,0/0,0/0");
        x.move(4);
        due("the own house 5: last(3)", x.last(3), 4);
        x = at("9,0,0,0,0,3,9,0,0,0,0,2/0,0/1");
        x.move(11);
        due("of the other player: last(3)", x.last(3), 0);
        x = at("3,0,0,0,0,9,0,0,9,0,1,0/0,0/1");
        x.move(10);
        due("the own house 11: last(3)", x.last(3), 4);
    }

    private static void lastHouseWasEmpty() {
        HostileHouses x = oneLapAt("9,0,1,1,0,0,0,0,4,0,0,9/0,0/0");
        x.move(2);
        due("one seed, no lap is added: last(3)", x.last(3), 0);
        due("house(3, 0)", x.house(3, 0), 2);
        x = oneLapAt("9,0,1,0,0,0,0,0,4,0,0,9/0,0/0");
        x.move(2);
        due("none: last(3)", x.last(3), 5);
        due("house(3, 0)", x.house(3, 0), 0);
        // the seed ahead of the last one came in the same lap, or was there ahead of the move
        x = oneTimeAround(0);
        x.move(0);
        due("one seed of the same lap: last(3)", x.last(3), 0);
        x = oneTimeAround(6);
        due("emptied by a lap of this move: move(0)", x.move(0), 7);
        last(x, 0, 7, 1, 3, 0);
        seeds(x, 1, 0, 2, 0, 2, 0, 2, 0, 2, 0, 0, 0);
        stores(x, 3, 0);
    }

    private static void houseAcrossHasSeeds() {
        HostileHouses x = at("9,0,1,0,0,0,0,0,1,0,0,9/0,0/0");
        x.move(2);
        due("one: last(3)", x.last(3), 2);
        x = at("9,0,1,0,0,0,0,0,0,0,0,9/0,0/0");
        x.move(2);
        due("none: last(3)", x.last(3), 0);
        due("the seed stays: house(3, 0)", x.house(3, 0), 1);
        stores(x, 0, 0);
        // 11 seeds of house 1 put the only one across from house 0
        x = at("0,11,0,0,0,0,0,0,0,0,0,0/0,0/0");
        x.move(1);
        due("one of this lap: last(3)", x.last(3), 2);
    }

    private static void capturedSeeds() {
        HostileHouses x = at("9,0,1,0,0,0,0,0,4,0,0,9/0,0/0");
        due("move(2)", x.move(2), 1);
        seeds(x, 9, 0, 0, 0, 0, 0, 0, 0, 0, 0, 0, 9);
        stores(x, 5, 0);
        last(x, 2, 1, 3, 5, 0);
        x = at("99,0,1,0,0,0,0,0,99,0,0,99/0,0/0");
        x.move(2);
        due("the most seeds across: last(3)", x.last(3), 100);
        x = at("9,0,0,0,0,4,0,0,9,0,1,0/0,0/1");
        x.move(10);
        seeds(x, 0, 0, 0, 0, 0, 4, 0, 0, 9, 0, 0, 0);
        stores(x, 0, 10);
    }

    private static void visitsOfTheHouseAcross() {
        HostileHouses x = oneLapAt("9,0,0,0,1,1,2,9,0,1,0,0/0,0/0");
        x.move(5);
        x.move(9);
        visits(x, 0, 0, 0, 0, 0, 0, 1, 0, 0, 0, 1, 0);
        x.move(4);
        due("last(3)", x.last(3), 4);
        visits(x, 0, 0, 0, 0, 0, 1, 0, 0, 0, 0, 1, 0);
        // no capture, as the house across is empty: its visits stay
        x = oneLapAt("9,0,0,0,1,1,0,1,0,0,0,0/0,0/0");
        x.move(5);
        x.move(6);
        x.move(4);
        visits(x, 0, 0, 0, 0, 0, 1, 1, 1, 0, 0, 0, 0);
        // the last house is hostile ahead of its visit: it captures, too
        x = oneLapAt("9,0,0,0,1,0,0,9,0,1,1,0/20,20/0");
        x.set(HostileHouses.VISITS, 1);
        x.move(4);
        x.move(9);
        x.move(5);
        x.move(7);
        due("house(4, 0)", x.house(4, 0), 1);
        due("house(5, 2)", x.house(5, 2), 1);
        x.move(4);
        due("house(5, 1)", x.house(5, 1), 2);
        due("last(3)", x.last(3), 2);
    }

    private static void nothingBehindALap() {
        HostileHouses x = oneLapAt("2,0,0,0,0,0,0,0,0,0,0,9/0,0/0");
        x.move(0);
        seeds(x, 0, 1, 1, 0, 0, 0, 0, 0, 0, 0, 0, 9);
        stores(x, 0, 0);
        last(x, 0, 1, 2, 0, 0);
        due("count(0)", x.count(0), 1);
    }

    // ---- moves: behind a move

    /** Player 0 captures from 8; the store has then as many seeds more as stood there, and one more. */
    private static HostileHouses behindCapture(int captured, int first, int second) {
        HostileHouses x = at("0,0,1,0,0,1,0,0," + (captured - 1) + ",0,0,2/" + first + "," + second + "/0");
        x.move(2);
        return x;
    }

    private static void moreThanHalf() {
        HostileHouses x = behindCapture(5, 4, 6);
        due("9 of 18: count(1)", x.count(1), 0);
        due("9 of 18: house(11, 0)", x.house(11, 0), 2);
        x = behindCapture(5, 5, 5);
        due("10 of 18: count(1)", x.count(1), 1);
        due("8 of 17: count(1)", behindCapture(5, 3, 6).count(1), 0);
        due("9 of 17: count(1)", behindCapture(5, 4, 5).count(1), 1);
        // the store of the player who did not move, by a toll
        x = withHostileHouses(3, 1, 21);
        x.move(4);
        due("22 of 44: count(1)", x.count(1), 0);
        x = withHostileHouses(3, 1, 22);
        due("22 of 45: count(1)", x.count(1), 0);
        x.move(4);
        due("23 of 45: count(1)", x.count(1), 1);
        // the player 1 by a capture
        x = at("9,0,4,0,0,0,0,0,1,0,0,0/5,9/1");
        x.move(8);
        due("14 of 28: count(1)", x.count(1), 0);
        x = at("9,0,4,0,0,0,0,0,1,0,0,0/4,9/1");
        x.move(8);
        due("14 of 27: count(1)", x.count(1), 1);
    }

    private static void whoWins() {
        HostileHouses x = behindCapture(5, 5, 5);
        stores(x, 11, 7);
        seeds(x, 0, 0, 0, 0, 0, 0, 0, 0, 0, 0, 0, 0);
        due("player 0: count(2)", x.count(2), 0);
        x = withHostileHouses(3, 1, 22);
        x.move(4);
        stores(x, 10, 35);
        seeds(x, 0, 0, 0, 0, 0, 0, 0, 0, 0, 0, 0, 0);
        due("player 1: count(2)", x.count(2), 1);
        x = single(300);
        stores(x, 100, 99);
        due("by one seed: count(2)", x.count(2), 0);
        x = at("0,0,1,0,0,0,0,0,1,0,0,0/4,6/0");
        x.move(2);
        stores(x, 6, 6);
        due("as many in both stores: count(2)", x.count(2), 2);
    }

    private static void allHousesAreEmpty() {
        HostileHouses x = at("0,0,1,0,0,0,0,0,1,0,0,0/4,6/0");
        x.move(2);
        due("none is left: count(1)", x.count(1), 1);
        due("neither store has more than half: count(2)", x.count(2), 2);
        x = at("0,0,1,0,0,0,0,0,1,0,0,1/4,6/0");
        x.move(2);
        due("one is left: count(1)", x.count(1), 0);
    }

    private static void threeHundredMoves() {
        HostileHouses x = single(299);
        due("299 moves: count(1)", x.count(1), 0);
        due("299 moves: count(0)", x.count(0), 1);
        due("move(11)", x.move(11), 1);
        due("300 moves: count(1)", x.count(1), 1);
        due("count(6)", x.count(6), 300);
        due("move(0)", x.move(0), -5);
        due("begin()", x.begin(), 300);
        due("count(1)", x.count(1), 0);
    }

    private static void turns() {
        HostileHouses x = at("1,1,0,0,0,0,0,0,0,0,0,1/9,9/0");
        x.move(0);
        due("the other one has one seed: count(0)", x.count(0), 1);
        x = at("1,1,0,0,0,0,0,0,0,0,0,0/9,9/0");
        x.move(0);
        due("the other one has none: count(0)", x.count(0), 0);
        x = at("0,0,0,0,0,1,0,0,0,0,0,0/9,9/0");
        x.move(5);
        due("the last seed goes to the other one: count(0)", x.count(0), 1);
        x.move(6);
        due("player 0 has none: count(0)", x.count(0), 1);
        x = single(12);
        due("the last seed comes back: count(0)", x.count(0), 0);
        // a capture leaves the other one without seeds
        x = at("9,0,1,0,0,0,0,0,4,0,0,0/0,0/0");
        x.move(2);
        due("count(0)", x.count(0), 0);
        due("count(1)", x.count(1), 0);
    }

    // ---- looking ahead

    private static void worthByDepth() {
        HostileHouses x = captureOrTakeCare();
        due("depth 0: worth(0)", x.worth(0), 10000);
        due("the capture: worth(1)", x.worth(1), 10005);
        due("with the other sign: worth(2)", x.worth(2), 10000);
        x = at("0,0,0,0,0,0,0,0,0,0,0,9/3,8/1");
        due("the store of the player to move less the other: worth(0)", x.worth(0), 10005);
        x = at("1,0,0,0,0,0,0,0,0,0,0,0/9,8/0");
        for (int depth = 0; depth <= 4; depth++) {
            due("the same player moves again: worth(" + depth + ")", x.worth(depth), 10001);
            due("over: worth(" + depth + ")", over().worth(depth), 9992);
        }
        // the game ends behind the first move; deeper looks end there, too
        x = at("0,0,1,0,0,1,0,0,4,0,0,0/5,5/0");
        due("worth(0)", x.worth(0), 10000);
        for (int depth = 1; depth <= 4; depth++) {
            due("worth(" + depth + ")", x.worth(depth), 10006);
        }
        x = single(299);
        due("the 300th move: worth(0)", x.worth(0), 10000);
        due("the 300th move: worth(1)", x.worth(1), 9999);
        due("the 300th move: worth(4)", x.worth(4), 9999);
    }

    private static void moverOfAGameThatIsOver() {
        HostileHouses x = behindCapture(5, 5, 5);
        due("player 0 moved last: count(0)", x.count(0), 1);
        due("worth(0)", x.worth(0), 10000 + 7 - 11);
        x = at("1,0,4,0,0,0,0,0,1,0,0,0/5,5/1");
        x.move(8);
        due("player 1 moved last: count(1)", x.count(1), 1);
        due("player 1 moved last: count(0)", x.count(0), 0);
        due("worth(0)", x.worth(0), 10000 + 6 - 10);
        x = single(300);
        due("the 300th move was of player 1: count(0)", x.count(0), 0);
        x = at("0,0,1,0,0,0,0,0,1,0,0,0/4,6/0");
        due("ifMove(2, 5)", x.ifMove(2, 5), 1);
    }

    // ---- texts

    private static final String ZEROS = "0,0,0,0,0,0,0,0,0,0,0,0/0,0/0";
    private static final int PLAYER_AT = 28;

    /** The zeros with other characters in the place of one; the number n begins at 2 n. */
    private static String zerosBut(int place, String characters) {
        return ZEROS.substring(0, place) + characters + ZEROS.substring(place + 1);
    }

    private static void fault(String text, int want) {
        due("fault of \"" + text + "\"", pad(text).fault(), want);
    }

    private static void lengthOfThePad() {
        HostileHouses x = new HostileHouses();
        due("an empty pad: count(12)", x.count(12), 0);
        for (int length = 8; length <= 56; length += 8) {
            due("8 characters more", x.put(packed("~~~~~~~~")), length);
        }
        due("5 behind 56", x.put(packed("~~~~~")), -4);
        due("4 behind 56", x.put(packed("~~~~")), 60);
        due("1 behind 60", x.put('~'), -4);
        due("count(12)", x.count(12), 60);
    }

    private static void signsOfThePosition() {
        fault(ZEROS, -6);
        for (int place = 1; place < PLAYER_AT; place += 2) {
            for (String sign : new String[] {".", "-", "0", ";", "~", ZEROS.charAt(place) == ',' ? "/" : ","}) {
                fault(zerosBut(place, sign), place);
            }
        }
        fault("0,0,0,0,0,0,0,0,0,0,0/", 21);
        fault("0,0,0,0,0,0,0,0,0,0,0,0,", 23);
        fault("0,0,0,0,0,0,0,0,0,0,0,0/0/", 25);
        fault("0,0,0,0,0,0,0,0,0,0,0,0/0,0,", 27);
        HostileHouses x = at("0,1,2,3,4,5,6,7,8,9,10,99/11,12/1");
        seeds(x, 0, 1, 2, 3, 4, 5, 6, 7, 8, 9, 10, 99);
        stores(x, 11, 12);
        due("the player: count(0)", x.count(0), 1);
    }

    private static void numbers() {
        for (int place = 0; place < PLAYER_AT; place += 2) {
            for (String good : new String[] {"0", "1", "9", "10", "19", "90", "99"}) {
                fault(zerosBut(place, good), -6);
            }
            for (String zero : new String[] {"00", "01", "09", "000"}) {
                fault(zerosBut(place, zero), place + 1);
            }
            for (String wrong : new String[] {"", "-1", "+1", "a", ":", "!", ",", "/"}) {
                fault(zerosBut(place, wrong), place);
            }
            fault(zerosBut(place, "9:"), place + 1);
            fault(zerosBut(place, "99:"), place + 2);
        }
        due("the highest numbers: read()", at("99,99,99,99,99,99,99,99,99,99,99,99/99,99/1").count(5), 14 * 99);
        fault(zerosBut(PLAYER_AT, "1"), -6);
        for (String wrong : new String[] {"2", "9", ",", "/", ":", "-1", "x"}) {
            fault(zerosBut(PLAYER_AT, wrong), PLAYER_AT);
        }
        for (String wrong : new String[] {"00", "01", "10", "11", "0,", "0/", "1x", "1.0"}) {
            fault(zerosBut(PLAYER_AT, wrong), PLAYER_AT + 1);
        }
    }

    private static void firstThatCannotStand() {
        fault("x,y", 0);
        fault("1,x,y", 2);
        fault("1,x," + ZEROS, 2);
        fault(ZEROS + "x", 29);
        fault(ZEROS + ZEROS, 29);
        fault(ZEROS + "~".repeat(31), 29);
        fault("1,".repeat(30), 23);
    }

    private static void above99() {
        for (int place = 0; place < PLAYER_AT; place += 2) {
            fault(zerosBut(place, "99"), -6);
            for (String above : new String[] {"100", "990", "999", "101", "1000"}) {
                fault(zerosBut(place, above), place + 2);
            }
        }
    }

    private static void endsTooEarly() {
        fault("", 0);
        for (int length = 0; length < ZEROS.length(); length++) {
            fault(ZEROS.substring(0, length), length);
        }
        String longest = "99,99,99,99,99,99,99,99,99,99,99,99/99,99/1";
        for (int length = 0; length < longest.length(); length++) {
            fault(longest.substring(0, length), length);
        }
        fault(longest, -6);
    }

    // ---- what the interface says

    private static void constants() {
        int[] codes = {HostileHouses.NO_SUCH, HostileHouses.BAD_VALUE, HostileHouses.BAD_TEXT,
            HostileHouses.TOO_MANY, HostileHouses.NOT_POSSIBLE, HostileHouses.NONE};
        for (int index = 0; index < codes.length; index++) {
            due("constant " + index, codes[index], -1 - index);
        }
    }

    private static void settingNumbers() {
        int[] settings = {HostileHouses.SEEDS, HostileHouses.VISITS, HostileHouses.LAPS, HostileHouses.TOLL};
        for (int index = 0; index < settings.length; index++) {
            due("setting " + index, settings[index], index);
        }
    }

    private static void tellingChangesNothing() {
        for (int index = 0; index < 14; index++) {
            int what = index;
            telling("count(" + what + ")", x -> x.count(what));
            telling("house(" + what + ", 0)", x -> x.house(what, 0));
            telling("house(5, " + what + ")", x -> x.house(5, what));
            telling("last(" + what + ")", x -> x.last(what));
            telling("moved(" + what + ")", x -> x.moved(what));
        }
    }

    private static void askingChangesNothing() {
        for (int index = 0; index < 12; index++) {
            int house = index;
            for (int what = 0; what < 7; what++) {
                int asked = what;
                telling("ifMove(" + house + ", " + what + ")", x -> x.ifMove(house, asked));
            }
        }
        for (int index = 0; index <= 4; index++) {
            int depth = index;
            telling("worth(" + depth + ")", x -> x.worth(depth));
            telling("best(" + depth + ")", x -> x.best(depth));
            telling("movesLeft(" + depth + ")", x -> x.movesLeft(depth));
        }
    }

    private static void telling(String call, ToIntFunction<HostileHouses> called) {
        leaves(call, Checks::busy, called, called.applyAsInt(busy()));
    }

    public static void main(String[] args) throws IOException {
        new Part("## Terms")
            .says("CONVENTIONS.")
            .holds("A method that fails returns one of the error codes NO_SUCH (-1), BAD_VALUE (-2), BAD_TEXT (-3), "
                + "TOO_MANY (-4) and NOT_POSSIBLE (-5)", TermsTest::errorCodes)
            .holds("it names its errors in the order in which they are checked, and the first one that applies is "
                + "returned.", TermsTest::firstErrorThatApplies)
            .holds("A call that returns an error changes nothing.", TermsTest::refusedCallsChangeNothing)
            .holds("NONE (-6) is not an error; it is returned only if no error applies.", TermsTest::noneIsNoError)
            .holds("Everything is numbered from 0.", TermsTest::numberedFromZero)
            .end();
        new Part("### Settings")
            .says("(In parentheses: range; first value.)")
            .holds("SEEDS (1 to 9; 4).", TermsTest::rangeOfSeeds)
            .holds("VISITS (1 to 9; 3).", TermsTest::rangeOfVisits)
            .holds("LAPS (0 to 20; 6).", TermsTest::rangeOfLaps)
            .holds("TOLL (0 to 3; 1).", TermsTest::rangeOfTolls)
            .end();
        new Part("### Houses")
            .holds("There are 12 houses in a ring, 0 to 11; the player 0 owns the houses 0 to 5, the player 1 the houses "
                + "6 to 11.", TermsTest::owners)
            .holds("Behind the house h comes the house h + 1, behind 11 comes 0.", TermsTest::houseBehind)
            .holds("The house across from h is 11 - h.", TermsTest::houseAcross)
            .says("Each player has a store.")
            .holds("A house has seeds and visits (0 at first).", TermsTest::noVisitsAtFirst)
            .holds("A house is hostile if it has at least VISITS visits.", TermsTest::hostile)
            .holds("A game begins with SEEDS seeds in each house, empty stores, no visits, and the player 0 to move.",
                TermsTest::gameBegins)
            .end();
        moves();
        new Part("### Looking ahead")
            .holds("The worth of a position for the player to move, by a depth d: if the game is over, or d is 0: the "
                + "seeds in the player's store less those in the other one's; otherwise the greatest worth, over all "
                + "moves, of the position behind the move by the depth d - 1 (with the other sign, if it is the other "
                + "player's move then).", TermsTest::worthByDepth)
            .holds("(When the game is over, the move is said to be that of the player who did not move last.)",
                TermsTest::moverOfAGameThatIsOver)
            .end();
        texts();
        end("all terms are kept");
    }

    private static void moves() throws IOException {
        new Part("### Moves")
            .holds("The player to move chooses an own house with seeds.", TermsTest::ownHouseWithSeeds)
            .holds("A lap: all seeds of the house are taken into the hand; then, from the house behind it on, house by "
                + "house, without the house from which the lap began:", TermsTest::houseOfTheLapGetsNoSeed)
            .holds("if the house is hostile, does not belong to the player, and the hand has more seeds than TOLL, TOLL "
                + "seeds of the hand go into the store of its owner (the other player); then one seed is put into the "
                + "house.", TermsTest::tolls)
            .holds("The lap ends with the last seed of the hand, in the house into which it is put (the last house); "
                + "this house gets one visit more.", TermsTest::lastHouseIsVisited)
            .says("Behind a lap:")
            .holds("- if the last house had seeds ahead of its last seed,", TermsTest::seedsAheadOfTheLastOne)
            .holds("it was not hostile ahead of its visit,", TermsTest::hostileAheadOfItsVisit)
            .holds("and fewer than LAPS laps were added in this move so far, a lap is added: it begins in the last "
                + "house;", TermsTest::fewerThanLaps)
            .holds("- otherwise, if the last house belongs to the player,", TermsTest::lastHouseIsOwn)
            .holds("was empty ahead of its last seed,", TermsTest::lastHouseWasEmpty)
            .holds("and the house across has seeds:", TermsTest::houseAcrossHasSeeds)
            .holds("a capture: the seeds of both go into the player's store,", TermsTest::capturedSeeds)
            .holds("and the visits of the house across become 0;", TermsTest::visitsOfTheHouseAcross)
            .holds("- otherwise nothing.", TermsTest::nothingBehindALap)
            .holds("Behind a move the game is over if all houses are empty,", TermsTest::allHousesAreEmpty)
            .holds("if 300 moves were made,", TermsTest::threeHundredMoves)
            .holds("or if one of the players has more than half of all seeds (in houses and stores together) in its "
                + "store:", TermsTest::moreThanHalf)
            .holds("then the seeds in the houses go into the stores of their owners, and who has more seeds in the store "
                + "wins.", TermsTest::whoWins)
            .holds("Otherwise it is the other player's move, or, if that one has no seeds in its own houses, that of the "
                + "player who moved again.", TermsTest::turns)
            .end();
    }

    private static void texts() throws IOException {
        new Part("### Texts")
            .holds("The pad is a text of at most 60 characters,", TermsTest::lengthOfThePad)
            .holds("a position: 12 numbers with \",\" between them (the seeds of the houses 0 to 11), \"/\", 2 numbers "
                + "with \",\" between them (the stores of the players 0 and 1), \"/\", and the player.",
                TermsTest::signsOfThePosition)
            .holds("A number is 0 to 99, without leading zeros, the player (who moves) is 0 or 1.", TermsTest::numbers)
            .holds("The fault is the index of the first character that cannot stand at its place when the text is read "
                + "from left to right", TermsTest::firstThatCannotStand)
            .holds("(also of a digit by which a number would be above 99);", TermsTest::above99)
            .holds("if there is none and the text ends too early (also if it is empty), it is the length of the text.",
                TermsTest::endsTooEarly)
            .holds("The constants: `NO_SUCH = -1, BAD_VALUE = -2, BAD_TEXT = -3, TOO_MANY = -4, NOT_POSSIBLE = -5, "
                + "NONE = -6`: Error codes, and NONE: there is none.", TermsTest::constants)
            .holds("`SEEDS = 0, VISITS = 1, LAPS = 2, TOLL = 3`: Settings.", TermsTest::settingNumbers)
            .says("Ahead of the calls `set`, `begin`, `move`, `play`, `read` the interface says: ---- changes.")
            .holds("Ahead of the calls `house`, `count`, `last`, `moved` the interface says: ---- what there is.",
                TermsTest::tellingChangesNothing)
            .holds("Ahead of the calls `ifMove`, `worth`, `best`, `movesLeft` the interface says: ---- what if; nothing "
                + "changes.", TermsTest::askingChangesNothing)
            .says("Ahead of the calls `put`, `wipe`, `fault` the interface says: ---- texts.")
            .says("Ahead of the calls `undo`, `save`, `restore` the interface says: ---- undo, saving.")
            .end();
    }
}
