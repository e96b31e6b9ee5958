/** A game of seeds in twelve houses that turn hostile when laps end in them too often. */
public final class HostileHouses {
    public static final int NO_SUCH = -1, BAD_VALUE = -2, BAD_TEXT = -3, TOO_MANY = -4, NOT_POSSIBLE = -5, NONE = -6;
    public static final int SEEDS = 0, VISITS = 1, LAPS = 2, TOLL = 3;

    private static final int HOUSES = 12;
    private static final int OWN_HOUSES = 6;
    private static final int PLAYERS = 2;
    private static final int NOBODY = 2;
    private static final int SETTINGS = 4;
    private static final int[] FIRST_VALUES = {4, 3, 6, 1};
    private static final int[] LOWEST_VALUES = {1, 1, 0, 0};
    private static final int[] HIGHEST_VALUES = {9, 9, 20, 3};
    private static final int MOST_MOVES = 300;
    private static final int DEEPEST = 4;
    private static final int DEEPEST_TO_THE_END = 2;
    private static final int MOST_CHARACTERS = 60;
    private static final int MOST_CHANGES = 6;
    private static final int SLOTS = 2;
    private static final int SHIFT = 10000;
    private static final int LEAST_VALUE = -SHIFT;

    private final State now = new State();
    private final History history = new History();
    private final State[] slots = new State[SLOTS];
    private final boolean[] saved = new boolean[SLOTS];
    private final Pad pad = new Pad();
    private final Lookahead lookahead = new Lookahead();

    public HostileHouses() {
        for (int slot = 0; slot < SLOTS; slot++) {
            slots[slot] = new State();
        }
        now.position.fill(now.settings[SEEDS]);
    }

    // ---- changes

    public int set(int setting, int value) {
        if (setting < 0 || setting >= SETTINGS || value < LOWEST_VALUES[setting] || value > HIGHEST_VALUES[setting]) {
            return BAD_VALUE;
        }
        history.remember(now);
        int previous = now.settings[setting];
        now.settings[setting] = value;
        return previous;
    }

    public int begin() {
        history.remember(now);
        int made = now.position.moves;
        now.position.fill(now.settings[SEEDS]);
        return made;
    }

    public int move(int house) {
        int error = errorOfMove(house);
        if (error != 0) {
            return error;
        }
        history.remember(now);
        now.makeMove(house);
        return now.latest.laps;
    }

    public int play(int depth) {
        if (depth < 1 || depth > DEEPEST) {
            return BAD_VALUE;
        }
        int house = lookahead.bestHouse(now.position, now.settings, depth);
        if (house == NONE) {
            return NOT_POSSIBLE;
        }
        history.remember(now);
        now.makeMove(house);
        return house;
    }

    public int read() {
        if (pad.scan() != NONE) {
            return BAD_TEXT;
        }
        history.remember(now);
        now.position.fillFrom(pad.numbers);
        pad.length = 0;
        return now.position.allSeeds();
    }

    // ---- what there is

    public int house(int house, int what) {
        if (!isHouse(house)) {
            return NO_SUCH;
        }
        switch (what) {
            case 0: return now.position.seeds[house];
            case 1: return now.position.visits[house];
            case 2: return now.position.isHostile(house, now.settings) ? 1 : 0;
            default: return BAD_VALUE;
        }
    }

    public int count(int what) {
        Position position = now.position;
        switch (what) {
            case 0: return position.player;
            case 1: return position.over ? 1 : 0;
            case 2: return position.over ? position.winner() : NONE;
            case 3: return position.stores[0];
            case 4: return position.stores[1];
            case 5: return position.allSeeds();
            case 6: return position.moves;
            case 7: return now.settings[SEEDS];
            case 8: return now.settings[VISITS];
            case 9: return now.settings[LAPS];
            case 10: return now.settings[TOLL];
            case 11: return position.hostileHouses(now.settings);
            case 12: return pad.length;
            case 13: return history.size;
            default: return BAD_VALUE;
        }
    }

    public int last(int what) {
        if (what < 0 || what > 4) {
            return BAD_VALUE;
        }
        if (now.position.moves == 0) {
            return NONE;
        }
        switch (what) {
            case 0: return now.latest.from;
            case 1: return now.latest.laps;
            case 2: return now.latest.lastHouse;
            case 3: return now.latest.captured;
            default: return now.latest.tolls;
        }
    }

    public int moved(int move) {
        if (move < 0 || move >= now.position.moves || move >= MOST_MOVES) {
            return NO_SUCH;
        }
        return now.record[move];
    }

    // ---- what if; nothing changes

    public int ifMove(int house, int what) {
        int error = errorOfMove(house);
        if (error != 0) {
            return error;
        }
        if (what < 0 || what > 6) {
            return BAD_VALUE;
        }
        Position behind = lookahead.trial;
        Report report = lookahead.report;
        behind.copyFrom(now.position);
        behind.makeMove(house, now.settings, report);
        switch (what) {
            case 0: return report.laps;
            case 1: return report.lastHouse;
            case 2: return report.captured;
            case 3: return report.tolls;
            case 4: return storeGain(now.position, behind) + SHIFT;
            case 5: return behind.player;
            default: return behind.over ? 1 : 0;
        }
    }

    public int worth(int depth) {
        if (depth < 0 || depth > DEEPEST) {
            return BAD_VALUE;
        }
        return lookahead.valueOf(now.position, now.settings, depth) + SHIFT;
    }

    public int best(int depth) {
        if (depth < 1 || depth > DEEPEST) {
            return BAD_VALUE;
        }
        return lookahead.bestHouse(now.position, now.settings, depth);
    }

    public int movesLeft(int depth) {
        if (depth < 1 || depth > DEEPEST_TO_THE_END) {
            return BAD_VALUE;
        }
        return lookahead.movesToTheEnd(now.position, now.settings, depth);
    }

    // ---- texts

    public int put(long characters) {
        int added = Pad.charactersIn(characters);
        if (added == 0) {
            return BAD_VALUE;
        }
        if (pad.length + added > MOST_CHARACTERS) {
            return TOO_MANY;
        }
        pad.append(characters, added);
        return pad.length;
    }

    public int wipe() {
        int length = pad.length;
        pad.length = 0;
        return length;
    }

    public int fault() {
        return pad.scan();
    }

    // ---- undo, saving

    public int undo() {
        if (history.size == 0) {
            return NOT_POSSIBLE;
        }
        history.takeBack(now);
        return history.size;
    }

    public int save(int slot) {
        if (!isSlot(slot)) {
            return BAD_VALUE;
        }
        slots[slot].copyFrom(now);
        saved[slot] = true;
        return now.position.moves;
    }

    public int restore(int slot) {
        if (!isSlot(slot)) {
            return BAD_VALUE;
        }
        if (!saved[slot]) {
            return NOT_POSSIBLE;
        }
        history.remember(now);
        now.copyFrom(slots[slot]);
        return now.position.moves;
    }

    // ---- what several calls share

    private static boolean isHouse(int house) {
        return house >= 0 && house < HOUSES;
    }

    private static boolean isSlot(int slot) {
        return slot >= 0 && slot < SLOTS;
    }

    /** The error of a move from a house; 0 if the move can be made. */
    private int errorOfMove(int house) {
        if (!isHouse(house)) {
            return NO_SUCH;
        }
        return now.position.canMoveFrom(house) ? 0 : NOT_POSSIBLE;
    }

    /** What the store of the player who moves has more behind the move than ahead of it. */
    private static int storeGain(Position ahead, Position behind) {
        return behind.stores[ahead.player] - ahead.stores[ahead.player];
    }

    /** What a move did. */
    private static final class Report {
        int from;
        int laps;
        int lastHouse;
        int captured;
        int tolls;

        void clear(int house) {
            from = house;
            laps = 0;
            lastHouse = house;
            captured = 0;
            tolls = 0;
        }

        void copyFrom(Report other) {
            from = other.from;
            laps = other.laps;
            lastHouse = other.lastHouse;
            captured = other.captured;
            tolls = other.tolls;
        }
    }

    /** The houses, the stores, and whose turn it is: all that looking ahead needs, beside the settings. */
    private static final class Position {
        final int[] seeds = new int[HOUSES];
        final int[] visits = new int[HOUSES];
        final int[] stores = new int[PLAYERS];
        int player;
        boolean over;
        int moves;

        void copyFrom(Position other) {
            System.arraycopy(other.seeds, 0, seeds, 0, HOUSES);
            System.arraycopy(other.visits, 0, visits, 0, HOUSES);
            stores[0] = other.stores[0];
            stores[1] = other.stores[1];
            player = other.player;
            over = other.over;
            moves = other.moves;
        }

        /** The position in which a game begins. */
        void fill(int seedsInEach) {
            startGame();
            for (int house = 0; house < HOUSES; house++) {
                seeds[house] = seedsInEach;
            }
            stores[0] = 0;
            stores[1] = 0;
            player = 0;
        }

        /** The position that the numbers of a text tell: the houses, the stores, the player. */
        void fillFrom(int[] numbers) {
            startGame();
            for (int house = 0; house < HOUSES; house++) {
                seeds[house] = numbers[house];
            }
            stores[0] = numbers[HOUSES];
            stores[1] = numbers[HOUSES + 1];
            giveTurnTo(numbers[HOUSES + PLAYERS] == 0 ? 0 : 1);
        }

        private void startGame() {
            for (int house = 0; house < HOUSES; house++) {
                visits[house] = 0;
            }
            over = false;
            moves = 0;
        }

        static int ownerOf(int house) {
            return house < OWN_HOUSES ? 0 : 1;
        }

        private static int houseBehind(int house) {
            return house == HOUSES - 1 ? 0 : house + 1;
        }

        boolean isHostile(int house, int[] settings) {
            return visits[house] >= settings[VISITS];
        }

        int hostileHouses(int[] settings) {
            int hostile = 0;
            for (int house = 0; house < HOUSES; house++) {
                hostile += isHostile(house, settings) ? 1 : 0;
            }
            return hostile;
        }

        boolean canMoveFrom(int house) {
            return !over && ownerOf(house) == player && seeds[house] > 0;
        }

        int seedsInHousesOf(int owner) {
            int sum = 0;
            for (int house = owner * OWN_HOUSES; house < (owner + 1) * OWN_HOUSES; house++) {
                sum += seeds[house];
            }
            return sum;
        }

        int allSeeds() {
            return seedsInHousesOf(0) + seedsInHousesOf(1) + stores[0] + stores[1];
        }

        int winner() {
            if (stores[0] == stores[1]) {
                return NOBODY;
            }
            return stores[0] > stores[1] ? 0 : 1;
        }

        /** What the player to move has more in the store than the other one. */
        int lead() {
            return stores[player] - stores[1 - player];
        }

        /** Makes a move from a house from which the player to move can move. */
        void makeMove(int house, int[] settings, Report report) {
            report.clear(house);
            boolean goesOn = true;
            for (int added = 0; goesOn && added <= settings[LAPS]; added++) {
                goesOn = sowLap(report.lastHouse, settings, report);
            }
            moves++;
            giveTurnTo(1 - player);
        }

        /** Sows one lap, and says whether its last house lets the move go on; a move that goes on captures nothing. */
        private boolean sowLap(int start, int[] settings, Report report) {
            int end = sowHand(start, settings, report);
            boolean wasEmpty = seeds[end] == 1;
            boolean wasHostile = isHostile(end, settings);
            visits[end]++;
            report.laps++;
            report.lastHouse = end;
            if (wasEmpty && ownerOf(end) == player) {
                captureAcross(end, report);
            }
            return !wasEmpty && !wasHostile;
        }

        /** Sows all seeds of a house, pays the tolls, and returns the house of the last seed. */
        private int sowHand(int start, int[] settings, Report report) {
            // not below 0 whatever the settings are, so that the hand gets smaller each time round
            int toll = Math.max(0, settings[TOLL]);
            int hand = seeds[start];
            seeds[start] = 0;
            int house = start;
            while (hand > 0) {
                house = houseBehind(house);
                if (house == start) {
                    house = houseBehind(house);
                }
                if (hand > toll && ownerOf(house) != player && isHostile(house, settings)) {
                    hand -= toll;
                    stores[1 - player] += toll;
                    report.tolls += toll;
                }
                seeds[house]++;
                hand--;
            }
            return house;
        }

        private void captureAcross(int house, Report report) {
            int across = HOUSES - 1 - house;
            if (seeds[across] == 0) {
                return;
            }
            int captured = seeds[house] + seeds[across];
            seeds[house] = 0;
            seeds[across] = 0;
            visits[across] = 0;
            stores[player] += captured;
            report.captured += captured;
        }

        /** Ends the game if it is over; otherwise a player without seeds leaves the turn to the other one. */
        private void giveTurnTo(int next) {
            player = next;
            if (isDecided()) {
                stores[0] += seedsInHousesOf(0);
                stores[1] += seedsInHousesOf(1);
                for (int house = 0; house < HOUSES; house++) {
                    seeds[house] = 0;
                }
                over = true;
            } else if (seedsInHousesOf(next) == 0) {
                player = 1 - next;
            }
        }

        private boolean isDecided() {
            int inHouses = seedsInHousesOf(0) + seedsInHousesOf(1);
            int all = inHouses + stores[0] + stores[1];
            return inHouses == 0 || moves >= MOST_MOVES || 2 * stores[0] > all || 2 * stores[1] > all;
        }
    }

    /** All that undo and the slots keep. */
    private static final class State {
        final Position position = new Position();
        final int[] settings = FIRST_VALUES.clone();
        final Report latest = new Report();
        final int[] record = new int[MOST_MOVES];

        void copyFrom(State other) {
            position.copyFrom(other.position);
            System.arraycopy(other.settings, 0, settings, 0, SETTINGS);
            latest.copyFrom(other.latest);
            System.arraycopy(other.record, 0, record, 0, MOST_MOVES);
        }

        void makeMove(int house) {
            int index = position.moves;
            if (index < MOST_MOVES) {
                record[index] = house;
            }
            position.makeMove(house, settings, latest);
        }
    }

    /** The states ahead of the latest changes, in a ring. */
    private static final class History {
        private final State[] states = new State[MOST_CHANGES];
        private int oldest;
        int size;

        History() {
            for (int index = 0; index < MOST_CHANGES; index++) {
                states[index] = new State();
            }
        }

        void remember(State state) {
            states[(oldest + size) % MOST_CHANGES].copyFrom(state);
            if (size < MOST_CHANGES) {
                size++;
            } else {
                oldest = (oldest + 1) % MOST_CHANGES;
            }
        }

        void takeBack(State state) {
            if (size == 0) {
                return;
            }
            size--;
            state.copyFrom(states[(oldest + size) % MOST_CHANGES]);
        }
    }

    /** Tries moves on positions of its own, which are made once: calls would fill the room otherwise. */
    private static final class Lookahead {
        final Position trial = new Position();
        final Report report = new Report();
        private final Position[] behind = new Position[DEEPEST + 1];

        Lookahead() {
            for (int depth = 0; depth <= DEEPEST; depth++) {
                behind[depth] = new Position();
            }
        }

        /** The worth of a position for the player to move. */
        private int valueOf(Position position, int[] settings, int depth) {
            if (position.over || depth <= 0) {
                return position.lead();
            }
            int greatest = LEAST_VALUE;
            for (int house = 0; house < HOUSES; house++) {
                if (position.canMoveFrom(house)) {
                    greatest = Math.max(greatest, valueBehind(position, house, settings, depth));
                }
            }
            return greatest;
        }

        /** The house of the best move by a depth of 1 or more; NONE if the game is over. */
        int bestHouse(Position position, int[] settings, int depth) {
            int best = NONE;
            int greatest = LEAST_VALUE;
            for (int house = 0; house < HOUSES; house++) {
                if (position.canMoveFrom(house)) {
                    int value = valueBehind(position, house, settings, depth);
                    if (value > greatest) {
                        best = house;
                        greatest = value;
                    }
                }
            }
            return best;
        }

        /** The worth, for the player who moves, of the position behind a move. */
        private int valueBehind(Position position, int house, int[] settings, int depth) {
            if (depth < 1 || depth > DEEPEST) {
                return position.lead();
            }
            Position next = behind[depth];
            next.copyFrom(position);
            next.makeMove(house, settings, report);
            int value = valueOf(next, settings, depth - 1);
            return next.player == position.player ? value : -value;
        }

        int movesToTheEnd(Position position, int[] settings, int depth) {
            trial.copyFrom(position);
            for (int made = 0; made < MOST_MOVES; made++) {
                int house = bestHouse(trial, settings, depth);
                if (house == NONE) {
                    return made;
                }
                trial.makeMove(house, settings, report);
            }
            return MOST_MOVES;
        }
    }

    /** The text that is written bit by bit, and the numbers that it tells. */
    private static final class Pad {
        private static final int PLAYER_FIELD = HOUSES + PLAYERS;

        private final char[] text = new char[MOST_CHARACTERS];
        final int[] numbers = new int[PLAYER_FIELD + 1];
        int length;

        /** How many characters a number holds; 0 if it holds none, or not just characters. */
        static int charactersIn(long packed) {
            long rest = packed;
            int characters = 0;
            while (rest != 0 && characters < 8) {
                long code = rest & 255;
                if (code < 33 || code > 126) {
                    return 0;
                }
                rest >>>= 8;
                characters++;
            }
            return characters;
        }

        /** Appends as many characters as the number holds and the caller has counted. */
        void append(long packed, int characters) {
            for (int index = characters - 1; index >= 0; index--) {
                if (length < MOST_CHARACTERS) {
                    text[length] = (char) (packed >>> 8 * index & 255);
                    length++;
                }
            }
        }

        /** Reads the text into the numbers, and returns its fault. */
        int scan() {
            int field = 0;
            int digits = 0;
            for (int index = 0; index < length; index++) {
                char character = text[index];
                if (digitFits(character, field, digits)) {
                    int before = digits == 0 ? 0 : numbers[field] * 10;
                    numbers[field] = before + character - '0';
                    digits++;
                } else if (digits > 0 && field < PLAYER_FIELD && character == signBehind(field)) {
                    field++;
                    digits = 0;
                } else {
                    return index;
                }
            }
            return field == PLAYER_FIELD && digits > 0 ? NONE : length;
        }

        /** Whether a character is a digit that can stand behind so many digits of a number. */
        private boolean digitFits(char character, int field, int digits) {
            if (field == PLAYER_FIELD) {
                return digits == 0 && (character == '0' || character == '1');
            }
            boolean isDigit = character >= '0' && character <= '9';
            return isDigit && (digits == 0 || digits == 1 && numbers[field] != 0);
        }

        private static char signBehind(int field) {
            return field == HOUSES - 1 || field == PLAYER_FIELD - 1 ? '/' : ',';
        }
    }
}
