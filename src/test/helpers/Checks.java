import java.util.function.Supplier;
import java.util.function.ToIntFunction;

/** What the tests share. An object is promised to work for 512 calls, so no helper makes more on one object. */
abstract class Checks {
    private static String about = "";
    private static int wrong;

    /** Tells of which sentence of the document the calls that follow are. */
    static void about(String sentence) {
        about = sentence;
    }

    static void due(String call, long got, long want) {
        if (got != want) {
            wrong(call + " answered " + got + ", due is " + want);
        }
    }

    static void same(String what, String got, String want) {
        if (!got.equals(want)) {
            wrong(what + " is\n    " + got + "\n  due is\n    " + want);
        }
    }

    static void wrong(String what) {
        wrong++;
        System.out.println(about + "\n  " + what);
    }

    static void end(String allRight) {
        System.out.println(wrong == 0 ? allRight : wrong + " answers are not as due");
        if (wrong != 0) {
            System.exit(1);
        }
    }

    // ---- objects

    static final String SINGLE_SEED = "1,0,0,0,0,0,0,0,0,0,0,0/99,99/0";

    static long packed(String characters) {
        long number = 0;
        for (int i = 0; i < characters.length(); i++) {
            number = number << 8 | characters.charAt(i);
        }
        return number;
    }

    static HostileHouses write(HostileHouses x, String text) {
        for (int at = 0; at < text.length(); at += 8) {
            x.put(packed(text.substring(at, Math.min(at + 8, text.length()))));
        }
        return x;
    }

    /** A new object with a text on its pad. */
    static HostileHouses pad(String text) {
        return write(new HostileHouses(), text);
    }

    /** A new object whose game begins with a position. */
    static HostileHouses at(String position) {
        HostileHouses x = pad(position);
        x.read();
        return x;
    }

    /** The same, where no lap is added. */
    static HostileHouses oneLapAt(String position) {
        HostileHouses x = at(position);
        x.set(HostileHouses.LAPS, 0);
        return x;
    }

    /** A full history, both slots saved, seven moves, hostile houses, and a text with a fault on the pad. */
    static HostileHouses busy() {
        HostileHouses x = new HostileHouses();
        x.set(HostileHouses.VISITS, 1);
        x.save(0);
        for (int i = 0; i < 7; i++) {
            x.play(1);
        }
        x.save(1);
        return write(x, "1,2,x");
    }

    static HostileHouses over() {
        return at("1,0,0,0,0,0,0,0,0,0,0,2/9,0/1");
    }

    static HostileHouses fullPad() {
        return pad("~".repeat(60));
    }

    /** One seed has gone from house to house; the stores stay at half of all or below. */
    static HostileHouses single(int moves) {
        HostileHouses x = at(SINGLE_SEED);
        for (int move = 0; move < moves; move++) {
            x.move(move % 12);
        }
        return x;
    }

    /** Houses 6 and 11 are hostile; player 0 can move from house 4, whose hand has one seed less at house 6. */
    static HostileHouses withHostileHouses(int seedsOfHouse4, int toll, int secondStore) {
        HostileHouses x = oneLapAt("9,0,0,0," + seedsOfHouse4 + ",1,0,0,0,0,1,9/0," + secondStore + "/0");
        x.set(HostileHouses.VISITS, 1);
        x.set(HostileHouses.TOLL, toll);
        x.move(5);
        x.move(10);
        return x;
    }

    /** From 0 player 0 captures 5, and then player 1 captures the 8 seeds of 2 from 8; from 2 nobody captures. */
    static HostileHouses captureOrTakeCare() {
        return oneLapAt("1,0,8,0,0,0,0,0,1,0,4,0/20,20/0");
    }

    /** Player 1 moves 11 to 0, player 0 has to move 0 to 1, and 9 to 10 captures 2; 9 to 10 at once captures none. */
    static HostileHouses captureInThree() {
        return oneLapAt("0,0,0,0,0,0,0,0,0,1,0,1/99,99/1");
    }

    /** The same, with 10 to 11 ahead of it: player 0 has no seeds, and player 1 moves again. */
    static HostileHouses captureInFour() {
        return oneLapAt("0,0,0,0,0,0,0,0,0,1,1,0/99,99/1");
    }

    // ---- what an object holds

    static void counts(HostileHouses x, int... want) {
        for (int what = 0; what < want.length; what++) {
            due("count(" + what + ")", x.count(what), want[what]);
        }
    }

    static void seeds(HostileHouses x, int... want) {
        for (int house = 0; house < 12; house++) {
            due("house(" + house + ", 0)", x.house(house, 0), want[house]);
        }
    }

    static void visits(HostileHouses x, int... want) {
        for (int house = 0; house < 12; house++) {
            due("house(" + house + ", 1)", x.house(house, 1), want[house]);
        }
    }

    static void stores(HostileHouses x, int first, int second) {
        due("count(3)", x.count(3), first);
        due("count(4)", x.count(4), second);
    }

    static void last(HostileHouses x, int... want) {
        for (int what = 0; what < want.length; what++) {
            due("last(" + what + ")", x.last(what), want[what]);
        }
    }

    /** What undo, save and restore are about: all but the pad, the history and the slots. It makes 43 calls. */
    static String game(HostileHouses x) {
        StringBuilder all = new StringBuilder();
        for (int what = 0; what < 12; what++) {
            all.append(x.count(what)).append(' ');
        }
        for (int house = 0; house < 12; house++) {
            all.append(x.house(house, 0)).append('v').append(x.house(house, 1)).append(' ');
        }
        for (int what = 0; what < 5; what++) {
            all.append(x.last(what)).append(' ');
        }
        return all.append(x.moved(0)).append(' ').append(x.moved(x.count(6) - 1)).toString();
    }

    /** All that an object holds, its history and slots too. It uses the object up, with at most 420 calls. */
    static String everything(HostileHouses x) {
        StringBuilder all = new StringBuilder(game(x));
        all.append("; pad ").append(x.count(12)).append(' ').append(x.fault());
        for (int left = x.count(13); left > 0; left--) {
            all.append("; undo ").append(x.undo()).append(' ').append(game(x));
        }
        for (int slot = 0; slot < 2; slot++) {
            all.append("; slot ").append(x.restore(slot)).append(' ').append(game(x));
        }
        return all.toString();
    }

    // ---- kinds of calls

    /** A call that answers as is due, and changes nothing: a refused one, or one that just tells. */
    static void leaves(String call, Supplier<HostileHouses> made, ToIntFunction<HostileHouses> called, int want) {
        HostileHouses x = made.get();
        due(call, called.applyAsInt(x), want);
        same("what " + call + " leaves", everything(x), everything(made.get()));
    }

    /** A call that records the state before it, so that undo brings that state back. */
    static void change(String call, Supplier<HostileHouses> made, ToIntFunction<HostileHouses> called) {
        HostileHouses x = made.get();
        String before = game(x);
        int recorded = x.count(13);
        due(call + " returns no error", called.applyAsInt(x) >= 0 ? 1 : 0, 1);
        due(call + ", then count(13)", x.count(13), Math.min(6, recorded + 1));
        due(call + ", then undo()", x.undo(), Math.min(6, recorded + 1) - 1);
        same("what undo() of " + call + " brings back", game(x), before);
    }

    /** A call that is no change is not recorded. */
    static void noChange(String call, Supplier<HostileHouses> made, ToIntFunction<HostileHouses> called) {
        HostileHouses x = made.get();
        int recorded = x.count(13);
        called.applyAsInt(x);
        due(call + ", then count(13)", x.count(13), recorded);
    }
}
