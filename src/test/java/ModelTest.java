import java.util.ArrayDeque;
import java.util.ArrayList;
import java.util.Deque;
import java.util.List;
import java.util.regex.Matcher;
import java.util.regex.Pattern;

/** Long runs of calls on the program and on a slow model that is written from the document's words alone. */
public final class ModelTest {
    static final int NO_SUCH = -1, BAD_VALUE = -2, BAD_TEXT = -3, TOO_MANY = -4, NOT_POSSIBLE = -5, NONE = -6;

    // ---- the model

    static final class Game implements Cloneable {
        int[] seeds = new int[12];
        int[] visits = new int[12];
        int[] store = new int[2];
        int[] settings = {4, 3, 6, 1};
        int player;
        boolean over;
        List<Integer> moves = new ArrayList<>();
        int[] last = new int[5];

        Game copy() {
            Game g = new Game();
            g.seeds = seeds.clone();
            g.visits = visits.clone();
            g.store = store.clone();
            g.settings = settings.clone();
            g.player = player;
            g.over = over;
            g.moves = new ArrayList<>(moves);
            g.last = last.clone();
            return g;
        }

        void begin(int[] numbers) {
            moves.clear();
            visits = new int[12];
            over = false;
            for (int h = 0; h < 12; h++) {
                seeds[h] = numbers[h];
            }
            store = new int[] {numbers[12], numbers[13]};
            player = numbers[14];
        }

        int owner(int h) {
            return h / 6;
        }

        int rowOf(int p) {
            int sum = 0;
            for (int h = 0; h < 12; h++) {
                if (owner(h) == p) {
                    sum += seeds[h];
                }
            }
            return sum;
        }

        int total() {
            return rowOf(0) + rowOf(1) + store[0] + store[1];
        }

        boolean hostile(int h) {
            return visits[h] >= settings[1];
        }

        boolean legal(int h) {
            return !over && owner(h) == player && seeds[h] != 0;
        }

        boolean ended() {
            return rowOf(0) + rowOf(1) == 0 || moves.size() == 300
                || store[0] > total() - store[0] || store[1] > total() - store[1];
        }

        void sweep() {
            store[0] += rowOf(0);
            store[1] += rowOf(1);
            seeds = new int[12];
            over = true;
        }

        void move(int from) {
            int me = player;
            int other = 1 - me;
            moves.add(from);
            last = new int[] {from, 0, from, 0, 0};
            int begin = from;
            int added = 0;
            while (true) {
                int hand = seeds[begin];
                seeds[begin] = 0;
                int h = begin;
                int ahead = 0;
                while (true) {
                    h = (h + 1) % 12;
                    if (h == begin) {
                        continue;
                    }
                    if (hostile(h) && owner(h) == other && hand > settings[3]) {
                        hand -= settings[3];
                        store[other] += settings[3];
                        last[4] += settings[3];
                    }
                    ahead = seeds[h];
                    seeds[h] = ahead + 1;
                    hand -= 1;
                    if (hand == 0) {
                        break;
                    }
                }
                boolean hostileAhead = hostile(h);
                visits[h] += 1;
                last[1] += 1;
                last[2] = h;
                if (ahead > 0 && !hostileAhead && added < settings[2]) {
                    added += 1;
                    begin = h;
                    continue;
                }
                if (owner(h) == me && ahead == 0 && seeds[11 - h] > 0) {
                    last[3] = seeds[h] + seeds[11 - h];
                    store[me] += last[3];
                    seeds[h] = 0;
                    seeds[11 - h] = 0;
                    visits[11 - h] = 0;
                }
                break;
            }
            if (ended()) {
                sweep();
                player = other;
            } else if (rowOf(other) > 0) {
                player = other;
            }
        }

        Game behind(int h) {
            Game g = copy();
            g.move(h);
            return g;
        }

        int worth(int depth) {
            if (over || depth == 0) {
                return store[player] - store[1 - player];
            }
            int most = Integer.MIN_VALUE;
            for (int h = 0; h < 12; h++) {
                if (legal(h)) {
                    most = Math.max(most, worthOf(h, depth));
                }
            }
            return most;
        }

        int worthOf(int h, int depth) {
            Game g = behind(h);
            return g.player == player ? g.worth(depth - 1) : -g.worth(depth - 1);
        }

        int best(int depth) {
            if (over) {
                return NONE;
            }
            int most = worth(depth);
            for (int h = 0; h < 12; h++) {
                if (legal(h) && worthOf(h, depth) == most) {
                    return h;
                }
            }
            throw new IllegalStateException("no best move");
        }

        int movesLeft(int depth) {
            Game g = copy();
            while (!g.over) {
                g.move(g.best(depth));
            }
            return g.moves.size() - moves.size();
        }
    }

    static final class Model {
        static final String NUMBER = "(0|[1-9][0-9]?)";
        static final Pattern TEXT = Pattern.compile(
            NUMBER + "," + NUMBER + "," + NUMBER + "," + NUMBER + "," + NUMBER + "," + NUMBER + ","
            + NUMBER + "," + NUMBER + "," + NUMBER + "," + NUMBER + "," + NUMBER + "," + NUMBER
            + "/" + NUMBER + "," + NUMBER + "/([01])");

        Game now = new Game();
        Deque<Game> history = new ArrayDeque<>();
        Game[] slots = new Game[2];
        String pad = "";

        Model() {
            begin();
            history.clear();
        }

        void change() {
            history.addLast(now.copy());
            if (history.size() > 6) {
                history.removeFirst();
            }
        }

        int set(int setting, int value) {
            int[][] ranges = {{1, 9}, {1, 9}, {0, 20}, {0, 3}};
            if (setting < 0 || setting > 3 || value < ranges[setting][0] || value > ranges[setting][1]) {
                return BAD_VALUE;
            }
            change();
            int before = now.settings[setting];
            now.settings[setting] = value;
            return before;
        }

        int begin() {
            change();
            int made = now.moves.size();
            int s = now.settings[0];
            now.begin(new int[] {s, s, s, s, s, s, s, s, s, s, s, s, 0, 0, 0});
            return made;
        }

        int error(int house) {
            if (house < 0 || house > 11) {
                return NO_SUCH;
            }
            return now.legal(house) ? 0 : NOT_POSSIBLE;
        }

        int move(int house) {
            if (error(house) != 0) {
                return error(house);
            }
            change();
            now.move(house);
            return now.last[1];
        }

        int play(int depth) {
            if (depth < 1 || depth > 4) {
                return BAD_VALUE;
            }
            if (now.over) {
                return NOT_POSSIBLE;
            }
            int house = now.best(depth);
            move(house);
            return house;
        }

        int read() {
            Matcher m = TEXT.matcher(pad);
            if (!m.matches()) {
                return BAD_TEXT;
            }
            change();
            int[] numbers = new int[15];
            for (int i = 0; i < 15; i++) {
                numbers[i] = Integer.parseInt(m.group(i + 1));
            }
            pad = "";
            now.begin(numbers);
            if (now.ended()) {
                now.sweep();
            } else if (now.rowOf(now.player) == 0) {
                now.player = 1 - now.player;
            }
            return now.total();
        }

        int house(int house, int what) {
            if (house < 0 || house > 11) {
                return NO_SUCH;
            }
            if (what < 0 || what > 2) {
                return BAD_VALUE;
            }
            int[] all = {now.seeds[house], now.visits[house], now.hostile(house) ? 1 : 0};
            return all[what];
        }

        int count(int what) {
            if (what < 0 || what > 13) {
                return BAD_VALUE;
            }
            int hostile = 0;
            for (int h = 0; h < 12; h++) {
                if (now.hostile(h)) {
                    hostile++;
                }
            }
            int winner = Integer.compare(now.store[1], now.store[0]);
            winner = winner == 0 ? 2 : winner < 0 ? 0 : 1;
            int[] all = {now.player, now.over ? 1 : 0, now.over ? winner : NONE, now.store[0], now.store[1],
                now.total(), now.moves.size(), now.settings[0], now.settings[1], now.settings[2], now.settings[3],
                hostile, pad.length(), history.size()};
            return all[what];
        }

        int last(int what) {
            if (what < 0 || what > 4) {
                return BAD_VALUE;
            }
            return now.moves.isEmpty() ? NONE : now.last[what];
        }

        int moved(int move) {
            return move < 0 || move >= now.moves.size() ? NO_SUCH : now.moves.get(move);
        }

        int ifMove(int house, int what) {
            if (error(house) != 0) {
                return error(house);
            }
            if (what < 0 || what > 6) {
                return BAD_VALUE;
            }
            Game g = now.behind(house);
            int[] all = {g.last[1], g.last[2], g.last[3], g.last[4],
                g.store[now.player] - now.store[now.player] + 10000, g.player, g.over ? 1 : 0};
            return all[what];
        }

        int worth(int depth) {
            return depth < 0 || depth > 4 ? BAD_VALUE : now.worth(depth) + 10000;
        }

        int best(int depth) {
            return depth < 1 || depth > 4 ? BAD_VALUE : now.best(depth);
        }

        int movesLeft(int depth) {
            return depth < 1 || depth > 2 ? BAD_VALUE : now.movesLeft(depth);
        }

        int put(long characters) {
            StringBuilder text = new StringBuilder();
            boolean ended = false;
            for (int i = 0; i < 8; i++) {
                int code = (int) (characters >> 8 * i) & 255;
                if (code == 0) {
                    ended = true;
                } else if (ended || code < 33 || code > 126) {
                    return BAD_VALUE;
                } else {
                    text.insert(0, (char) code);
                }
            }
            if (text.length() == 0) {
                return BAD_VALUE;
            }
            if (pad.length() + text.length() > 60) {
                return TOO_MANY;
            }
            pad += text;
            return pad.length();
        }

        int wipe() {
            int length = pad.length();
            pad = "";
            return length;
        }

        int fault() {
            if (TEXT.matcher(pad).matches()) {
                return NONE;
            }
            for (int i = 0; i < pad.length(); i++) {
                Matcher m = TEXT.matcher(pad.substring(0, i + 1));
                if (!m.matches() && !m.hitEnd()) {
                    return i;
                }
            }
            return pad.length();
        }

        int undo() {
            if (history.isEmpty()) {
                return NOT_POSSIBLE;
            }
            now = history.removeLast();
            return history.size();
        }

        int save(int slot) {
            if (slot < 0 || slot > 1) {
                return BAD_VALUE;
            }
            slots[slot] = now.copy();
            return now.moves.size();
        }

        int restore(int slot) {
            if (slot < 0 || slot > 1) {
                return BAD_VALUE;
            }
            if (slots[slot] == null) {
                return NOT_POSSIBLE;
            }
            change();
            now = slots[slot].copy();
            return now.moves.size();
        }
    }

    // ---- the runs

    static final int CALLS = 512;
    static final int VIEW_CALLS = 12 * 3 + 14 + 5 + 1;
    static final int MOST_CALLS_AT_ONCE = 60;

    /** A generator of its own, so that every run is the same everywhere. */
    static final class Dice {
        long state;

        Dice(long seed) {
            state = seed * 0x9E3779B97F4A7C15L + 12345;
        }

        long bits() {
            state += 0x9E3779B97F4A7C15L;
            long z = state;
            z = (z ^ (z >>> 30)) * 0xBF58476D1CE4E5B9L;
            z = (z ^ (z >>> 27)) * 0x94D049BB133111EBL;
            return z ^ (z >>> 31);
        }

        int below(int bound) {
            return (int) Long.remainderUnsigned(bits(), bound);
        }

        /** Mostly within a range, now and then next to it or far away. */
        int about(int low, int high) {
            switch (below(24)) {
                case 0: return low - 1;
                case 1: return high + 1;
                case 2: return below(3) == 0 ? (int) bits() : low;
                case 3: return below(3) == 0 ? Integer.MIN_VALUE : high;
                case 4: return below(3) == 0 ? Integer.MAX_VALUE : low;
                default: return low + below(high - low + 1);
            }
        }
    }

    static final class Run {
        final HostileHouses x = new HostileHouses();
        final Model m = new Model();
        final Dice dice;
        final StringBuilder calls = new StringBuilder();
        final int seedsStyle;
        int made;
        int dearCalls;

        Run(long seed) {
            dice = new Dice(seed);
            seedsStyle = dice.below(4);
        }

        void due(String call, long got, long want) {
            made++;
            calls.append(call).append(" = ").append(want).append('\n');
            if (got != want) {
                System.out.println(calls + "but the program answered " + got);
                System.exit(1);
            }
        }

        void goThrough() {
            if (dice.below(8) == 0) {
                longGame();
            }
            while (made + MOST_CALLS_AT_ONCE + VIEW_CALLS < CALLS) {
                call();
            }
            view();
        }

        /** Single seeds and full stores: most such games last 300 moves. */
        void longGame() {
            StringBuilder text = new StringBuilder();
            for (int i = 0; i < 12; i++) {
                text.append(i == 0 || dice.below(12) == 0 ? 1 : 0).append(i == 11 ? '/' : ',');
            }
            write(text.append("99,99/0").toString());
            due("read()", x.read(), m.read());
            while (made < 370 && !m.now.over) {
                if (dice.below(8) == 0) {
                    tellOfMoves();
                } else {
                    move(m.now.player * 6 + dice.below(6));
                }
            }
        }

        void move(int house) {
            if (m.now.legal(house)) {
                due("move(" + house + ")", x.move(house), m.move(house));
            }
        }

        void view() {
            for (int what = 0; what < 14; what++) {
                due("count(" + what + ")", x.count(what), m.count(what));
            }
            for (int house = 0; house < 12; house++) {
                for (int what = 0; what < 3; what++) {
                    due("house(" + house + ", " + what + ")", x.house(house, what), m.house(house, what));
                }
            }
            for (int what = 0; what < 5; what++) {
                due("last(" + what + ")", x.last(what), m.last(what));
            }
            due("fault()", x.fault(), m.fault());
        }

        void call() {
            int kind = dice.below(100);
            if (kind < 30) {
                moveSomewhere();
            } else if (kind < 36) {
                int depth = dice.below(8) == 0 ? dice.about(1, 4) : dice.about(1, 2);
                due("play(" + depth + ")", x.play(depth), m.play(depth));
            } else if (kind < 41) {
                int setting = dice.about(0, 3);
                int value = setting == 2 && dice.below(2) == 0 ? dice.about(0, 20) : dice.about(0, 9);
                due("set(" + setting + ", " + value + ")", x.set(setting, value), m.set(setting, value));
            } else if (kind < 42) {
                due("begin()", x.begin(), m.begin());
            } else if (kind < 45) {
                text();
            } else if (kind < 70) {
                tellOfNow();
            } else if (kind < 84) {
                tellOfMoves();
            } else {
                tellOfTextsAndStates();
            }
        }

        void moveSomewhere() {
            int house = dice.below(12) == 0 ? dice.about(0, 11) : m.now.player * 6 + dice.below(6);
            due("move(" + house + ")", x.move(house), m.move(house));
        }

        void tellOfNow() {
            int what;
            switch (dice.below(4)) {
                case 0:
                    int house = dice.about(0, 11);
                    what = dice.about(0, 2);
                    due("house(" + house + ", " + what + ")", x.house(house, what), m.house(house, what));
                    break;
                case 1:
                    what = dice.about(0, 13);
                    due("count(" + what + ")", x.count(what), m.count(what));
                    break;
                case 2:
                    what = dice.about(0, 4);
                    due("last(" + what + ")", x.last(what), m.last(what));
                    break;
                default:
                    what = dice.about(0, m.now.moves.size());
                    due("moved(" + what + ")", x.moved(what), m.moved(what));
                    break;
            }
        }

        void tellOfMoves() {
            int kind = dice.below(12);
            int depth = dice.below(6) == 0 ? dice.about(0, 4) : dice.about(0, 2);
            if (kind < 6) {
                int house = dice.below(4) == 0 ? dice.about(0, 11) : m.now.player * 6 + dice.below(6);
                int what = dice.about(0, 6);
                due("ifMove(" + house + ", " + what + ")", x.ifMove(house, what), m.ifMove(house, what));
            } else if (kind < 9) {
                due("worth(" + depth + ")", x.worth(depth), m.worth(depth));
            } else if (kind < 11) {
                due("best(" + depth + ")", x.best(depth), m.best(depth));
            } else if (dearCalls < 4) {
                dearCalls++;
                due("movesLeft(" + depth + ")", x.movesLeft(depth), m.movesLeft(depth));
            }
        }

        void tellOfTextsAndStates() {
            int slot = dice.about(0, 1);
            switch (dice.below(9)) {
                case 0: case 1: case 2:
                    due("undo()", x.undo(), m.undo());
                    break;
                case 3:
                    due("save(" + slot + ")", x.save(slot), m.save(slot));
                    break;
                case 4:
                    due("restore(" + slot + ")", x.restore(slot), m.restore(slot));
                    break;
                case 5:
                    due("wipe()", x.wipe(), m.wipe());
                    break;
                case 6:
                    due("fault()", x.fault(), m.fault());
                    break;
                case 7:
                    due("read()", x.read(), m.read());
                    break;
                default:
                    putAnything();
                    break;
            }
        }

        void putAnything() {
            long packed = dice.bits() >>> dice.below(64);
            int times = 1;
            if (dice.below(2) == 0) {
                packed = 0x30312C2F7E213139L >>> 8 * dice.below(8);
                times += dice.below(10);
            }
            for (int i = 0; i < times; i++) {
                due("put(" + packed + ")", x.put(packed), m.put(packed));
            }
        }

        /** Puts a position, now and then with a slip in it, and reads it. */
        void text() {
            StringBuilder text = new StringBuilder();
            for (int i = 0; i < 14; i++) {
                text.append(number(i)).append(i == 11 || i == 13 ? '/' : ',');
            }
            text.append(dice.below(2));
            if (dice.below(3) == 0) {
                String signs = "0123456789,/.-!~";
                text.setCharAt(dice.below(text.length()), signs.charAt(dice.below(signs.length())));
            }
            if (dice.below(8) == 0) {
                text.setLength(dice.below(text.length()));
            }
            if (dice.below(8) == 0) {
                text.append(dice.below(10));
            }
            if (dice.below(10) > 0) {
                due("wipe()", x.wipe(), m.wipe());
            }
            write(text.toString());
            due("fault()", x.fault(), m.fault());
            due("read()", x.read(), m.read());
        }

        void write(String text) {
            for (int at = 0; at < text.length();) {
                int end = Math.min(text.length(), at + (dice.below(6) == 0 ? 1 + dice.below(8) : 8));
                long packed = 0;
                for (; at < end; at++) {
                    packed = packed << 8 | text.charAt(at);
                }
                due("put(" + packed + ")", x.put(packed), m.put(packed));
            }
        }

        int number(int index) {
            if (index >= 12) {
                return dice.below(2) == 0 ? dice.below(100) : dice.below(12);
            }
            switch (seedsStyle) {
                case 0: return dice.below(3) == 0 ? dice.below(4) : 0;
                case 1: return dice.below(8);
                case 2: return dice.below(2) * dice.below(30);
                default: return dice.below(100);
            }
        }
    }

    public static void main(String[] args) {
        int runs = args.length > 0 ? Integer.parseInt(args[0]) : 400;
        int first = args.length > 1 ? Integer.parseInt(args[1]) : 0;
        for (int run = first; run < first + runs; run++) {
            new Run(run).goThrough();
        }
        System.out.println(runs + " runs are as the model tells");
    }
}
