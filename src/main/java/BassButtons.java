/**
 * A desk for the left hand of a button accordion: the system of buttons, a piece of at most eight
 * beats, the settings and the hand that play it, and the bellows that feed it.
 *
 * <p>Whatever changes the desk also settles the settings, the hand and the bellows anew, so a
 * question only reads what stands there.
 */
public final class BassButtons {
    public static final int NUMBER = -1;
    public static final int FULL = -2;
    public static final int NONE = -3;

    /** of() needs -1 for a beat without a low note, so it refuses with another number. */
    private static final int NUMBER_OF_BEAT_FACTS = -9;

    private static final int NOTES = 12;
    private static final int ALL_NOTES = 4095;
    private static final int FIFTH = 7;

    private static final int COLUMNS = 12;
    private static final int ROWS = 6;
    private static final int ALL_ROWS = 63;
    private static final int FIRST_BASE = 0;
    private static final int COUNTER_ROW = 0;
    private static final int BASS_ROW = 1;
    private static final int FIRST_CHORD_ROW = 2;
    private static final int BUTTONS = 72;
    private static final int CHORD_BUTTONS = 48;

    /** What each row sounds where the root is note 0. */
    private static final int[] ROW_NOTES = {16, 1, 145, 137, 1041, 521};

    private static final int MOST_BEATS = 8;
    private static final int MOST_LENGTH = 8;
    private static final int TIED = 3;
    private static final int NO_LOW = -1;

    private static final int MOST_REGISTER = 3;
    private static final int MOST_ROOM = 400;

    private static final int MOST_GOOD = 20;
    private static final int NO_BUTTON = -1;
    private static final int NO_BEAT = -1;
    private static final int NO_WAY = -1;
    /** Above every rank, sum of jumps, cost and room that can come up. */
    private static final int ABOVE_ALL = 1 << 30;

    /** What a turn costs by mark; the bellows never turn at a tied beat, so its number is not used. */
    private static final int[] TURN_COSTS = {3, 0, 1, 0};

    private final Desk desk;
    private final Desk keptDesk;
    private boolean isKept;
    private final Hand playing;
    private final Hand supposed;
    private final Bellows pumping;

    public BassButtons() {
        desk = new Desk();
        keptDesk = new Desk();
        isKept = false;
        playing = new Hand();
        supposed = new Hand();
        pumping = new Bellows();
    }

    // ---- the system

    public int system(int base, int rows) {
        if (!isSystem(base, rows)) {
            return NUMBER;
        }
        desk.base = base;
        desk.rows = rows;
        playing.learn(base, rows, desk);
        settleHand();
        return 1;
    }

    public int sound(int button) {
        if (button < 0 || button >= BUTTONS) {
            return NUMBER;
        }
        int notes = playing.board.notes[button];
        return notes == 0 ? NONE : notes;
    }

    public int root(int column) {
        if (column < 0 || column >= COLUMNS) {
            return NUMBER;
        }
        return rootOf(desk.base, column);
    }

    public int rule(int what, int v) {
        switch (what) {
            case 0:
                return setRegister(v);
            case 1:
                return setRoom(v);
            case 2:
                return setStart(v);
            default:
                return NUMBER;
        }
    }

    // ---- the piece

    public int beat(int chord, int low, int length, int mark) {
        if (!isBeat(chord, low, length, mark)) {
            return NUMBER;
        }
        if (desk.beats >= MOST_BEATS) {
            return FULL;
        }
        int beat = desk.beats;
        desk.beats = beat + 1;
        desk.write(beat, chord, low, length, mark);
        settleBeat(beat);
        return beat;
    }

    public int alter(int beat, int chord, int low, int length, int mark) {
        if (!desk.has(beat) || !isBeat(chord, low, length, mark)) {
            return NUMBER;
        }
        desk.write(beat, chord, low, length, mark);
        settleBeat(beat);
        return 1;
    }

    public int drop() {
        if (desk.beats <= 0) {
            return NONE;
        }
        desk.beats--;
        settleHand();
        return desk.beats;
    }

    public int of(int beat, int what) {
        if (!desk.has(beat)) {
            return NUMBER_OF_BEAT_FACTS;
        }
        switch (what) {
            case 0:
                return desk.chords[beat];
            case 1:
                return desk.lows[beat];
            case 2:
                return desk.lengths[beat];
            case 3:
                return desk.marks[beat];
            default:
                return NUMBER_OF_BEAT_FACTS;
        }
    }

    // ---- settings and the hand

    public int good(int beat, int what) {
        if (!desk.has(beat)) {
            return NUMBER;
        }
        Goods goods = playing.goods[beat];
        switch (what) {
            case 0:
                return goods.lack;
            case 1:
                return goods.extra;
            case 2:
                return goods.size;
            case 3:
                return goods.count;
            default:
                return NUMBER;
        }
    }

    public int button(int beat, int k, int i) {
        if (!desk.has(beat)) {
            return NUMBER;
        }
        Goods goods = playing.goods[beat];
        if (k < 0 || k >= goods.count || i < 0 || i >= goods.size) {
            return NONE;
        }
        return goods.buttonAt(k, i);
    }

    public int hand(int beat) {
        return desk.has(beat) ? playing.chosen[beat] : NUMBER;
    }

    public int jumps() {
        return playing.jumped;
    }

    public int sounds(int beat) {
        return desk.has(beat) ? playing.notesOf(beat) : NUMBER;
    }

    public int changed(int base, int rows) {
        if (!isSystem(base, rows)) {
            return NUMBER;
        }
        supposed.learn(base, rows, desk);
        supposed.choose(desk.beats);
        int others = 0;
        for (int beat = 0; beat < desk.beats; beat++) {
            if (!playing.hasSameButtons(supposed, beat)) {
                others++;
            }
        }
        return others;
    }

    // ---- the bellows

    public int use(int beat) {
        return desk.has(beat) ? pumping.uses[beat] : NUMBER;
    }

    public int bellows(int beat) {
        if (!desk.has(beat)) {
            return NUMBER;
        }
        if (!pumping.hasWay()) {
            return NONE;
        }
        return pumping.goesOut(pumping.way, beat) ? 1 : 0;
    }

    public int air(int beat) {
        if (!desk.has(beat)) {
            return NUMBER;
        }
        return pumping.hasWay() ? pumping.airBehind(beat, desk.start) : NONE;
    }

    public int cost() {
        return pumping.hasWay() ? pumping.price : NONE;
    }

    public int wants() {
        return pumping.leastRoom <= MOST_ROOM ? pumping.leastRoom : NONE;
    }

    public int many(int what) {
        switch (what) {
            case 0:
                return desk.beats;
            case 1:
                return COLUMNS * Integer.bitCount(desk.rows);
            case 2:
                return playing.lackOfAll(desk.beats);
            case 3:
                return playing.extraOfAll(desk.beats);
            case 4:
                return playing.buttonsOfAll(desk.beats);
            case 5:
                return pumping.hasWay() ? pumping.turnsOf(pumping.way) : 0;
            case 6:
                return desk.base;
            case 7:
                return desk.rows;
            default:
                return NUMBER;
        }
    }

    // ---- kept

    public int keep() {
        keptDesk.copyFrom(desk);
        isKept = true;
        return 1;
    }

    public int back() {
        if (!isKept) {
            return NONE;
        }
        desk.copyFrom(keptDesk);
        playing.learn(desk.base, desk.rows, desk);
        settleHand();
        return 1;
    }

    // ---- what the calls share

    private static boolean isSystem(int base, int rows) {
        return base >= 0 && base < NOTES && rows >= 0 && rows <= ALL_ROWS;
    }

    private static boolean isBeat(int chord, int low, int length, int mark) {
        return chord >= 0 && chord <= ALL_NOTES
            && low >= NO_LOW && low < NOTES
            && length >= 1 && length <= MOST_LENGTH
            && mark >= 0 && mark <= TIED;
    }

    private static int rootOf(int base, int column) {
        return (base + FIFTH * column) % NOTES;
    }

    private int setRegister(int v) {
        if (v < 1 || v > MOST_REGISTER) {
            return NUMBER;
        }
        int was = desk.register;
        desk.register = v;
        settleBellows();
        return was;
    }

    private int setRoom(int v) {
        if (v < 1 || v > MOST_ROOM || v < desk.start) {
            return NUMBER;
        }
        int was = desk.room;
        desk.room = v;
        settleBellows();
        return was;
    }

    private int setStart(int v) {
        if (v < 0 || v > desk.room) {
            return NUMBER;
        }
        int was = desk.start;
        desk.start = v;
        settleBellows();
        return was;
    }

    private void settleBeat(int beat) {
        playing.goods[beat].find(playing.board, desk.chords[beat], desk.lows[beat]);
        settleHand();
    }

    private void settleHand() {
        playing.choose(desk.beats);
        settleBellows();
    }

    private void settleBellows() {
        pumping.load(desk, playing);
        pumping.choose(desk.start, desk.room);
    }

    /** All that keep() keeps. */
    private static final class Desk {
        int base = FIRST_BASE;
        int rows = ALL_ROWS;
        int register = 1;
        int room = 100;
        int start = 0;
        int beats = 0;
        final int[] chords = new int[MOST_BEATS];
        final int[] lows = new int[MOST_BEATS];
        final int[] lengths = new int[MOST_BEATS];
        final int[] marks = new int[MOST_BEATS];

        boolean has(int beat) {
            return beat >= 0 && beat < beats;
        }

        void write(int beat, int chord, int low, int length, int mark) {
            chords[beat] = chord;
            lows[beat] = low;
            lengths[beat] = length;
            marks[beat] = mark;
        }

        void copyFrom(Desk from) {
            base = from.base;
            rows = from.rows;
            register = from.register;
            room = from.room;
            start = from.start;
            beats = from.beats;
            for (int beat = 0; beat < MOST_BEATS; beat++) {
                write(beat, from.chords[beat], from.lows[beat], from.lengths[beat], from.marks[beat]);
            }
        }
    }

    /** The buttons of one system. */
    private static final class Board {
        /** By button; 0 is a button that isn't there, as one that is there always sounds. */
        final int[] notes = new int[BUTTONS];
        /** The buttons of rows 2 to 5 that are there, rising. */
        final int[] chordButtons = new int[CHORD_BUTTONS];
        int chordCount = 0;

        void tune(int base, int rows) {
            chordCount = 0;
            for (int button = 0; button < BUTTONS; button++) {
                int row = button % ROWS;
                boolean isThere = ((rows >> row) & 1) == 1;
                notes[button] = isThere ? raised(ROW_NOTES[row], rootOf(base, button / ROWS)) : 0;
                if (isThere && row >= FIRST_CHORD_ROW && chordCount < CHORD_BUTTONS) {
                    chordButtons[chordCount] = button;
                    chordCount++;
                }
            }
        }

        static int raised(int bits, int steps) {
            return ((bits << steps) | (bits >> (NOTES - steps))) & ALL_NOTES;
        }

        /** The one button of a bass row that sounds a low note, or NO_BUTTON. */
        int lowButton(int row, int low) {
            if (low < 0) {
                return NO_BUTTON;
            }
            for (int button = row; button < BUTTONS; button += ROWS) {
                if (notes[button] == 1 << low) {
                    return button;
                }
            }
            return NO_BUTTON;
        }
    }

    /**
     * The good settings of one beat.
     *
     * <p>A setting is held as a code: its buttons rising, seven bits each, the greatest one last.
     * Good settings of a beat are all of one size, so their codes stand in the document's order.
     */
    private static final class Goods {
        private static final int BUTTON_BITS = 7;
        private static final int BUTTON_MASK = 127;
        private static final int RANK_BITS = 4;
        private static final int RANK_MASK = 15;

        final int[] codes = new int[MOST_GOOD];
        int count = 0;
        int size = 0;
        int lack = 0;
        int extra = 0;

        private int wanted = 0;
        private int counterButton = NO_BUTTON;
        private int bassButton = NO_BUTTON;
        /** Lack, extra and number of chord buttons of the best so far; the lesser is the better. */
        private int bestRank = 0;

        void find(Board board, int chord, int low) {
            wanted = chord;
            counterButton = board.lowButton(COUNTER_ROW, low);
            bassButton = board.lowButton(BASS_ROW, low);
            count = 0;
            bestRank = ABOVE_ALL;
            offer(NO_BUTTON, NO_BUTTON, 0, 0);
            offerSingles(board);
            // What fits wholly is not bettered by more buttons.
            if (bestRank >> RANK_BITS != 0) {
                offerPairs(board);
            }
            lack = (bestRank >> (2 * RANK_BITS)) + (low >= 0 && !hasLowButton() ? 1 : 0);
            extra = (bestRank >> RANK_BITS) & RANK_MASK;
            size = (bestRank & RANK_MASK) + (hasLowButton() ? 1 : 0);
        }

        private boolean hasLowButton() {
            return counterButton != NO_BUTTON || bassButton != NO_BUTTON;
        }

        private void offerSingles(Board board) {
            for (int i = 0; i < board.chordCount; i++) {
                int button = board.chordButtons[i];
                offer(NO_BUTTON, button, 1, board.notes[button]);
            }
        }

        private void offerPairs(Board board) {
            for (int i = 0; i < board.chordCount; i++) {
                int first = board.chordButtons[i];
                for (int j = i + 1; j < board.chordCount; j++) {
                    int second = board.chordButtons[j];
                    offer(first, second, 2, board.notes[first] | board.notes[second]);
                }
            }
        }

        private void offer(int first, int second, int buttons, int notes) {
            int missing = Integer.bitCount(wanted & ~notes);
            int surplus = Integer.bitCount(notes & ~wanted);
            int rank = (((missing << RANK_BITS) | surplus) << RANK_BITS) | buttons;
            if (rank < bestRank) {
                bestRank = rank;
                count = 0;
            }
            if (rank == bestRank) {
                takeWithLow(first, second);
            }
        }

        private void takeWithLow(int first, int second) {
            if (!hasLowButton()) {
                insert(packed(NO_BUTTON, first, second));
            }
            if (counterButton != NO_BUTTON) {
                insert(packed(counterButton, first, second));
            }
            if (bassButton != NO_BUTTON) {
                insert(packed(bassButton, first, second));
            }
        }

        /** NO_BUTTON is less than every button, so those that lack come to stand in front, as 0. */
        private static int packed(int x, int y, int z) {
            int least = Math.min(x, Math.min(y, z));
            int greatest = Math.max(x, Math.max(y, z));
            int middle = x + y + z - least - greatest;
            int front = (Math.max(least, 0) << BUTTON_BITS) | Math.max(middle, 0);
            return (front << BUTTON_BITS) | Math.max(greatest, 0);
        }

        /** Keeps the codes rising; what falls behind the last place is forgotten. */
        private void insert(int code) {
            int place = count;
            for (int i = count - 1; i >= 0 && codes[i] > code; i--) {
                place = i;
            }
            if (place >= MOST_GOOD) {
                return;
            }
            for (int i = Math.min(count, MOST_GOOD - 1); i > place; i--) {
                codes[i] = codes[i - 1];
            }
            codes[place] = code;
            count = Math.min(count + 1, MOST_GOOD);
        }

        int buttonAt(int k, int i) {
            return (codes[k] >> (BUTTON_BITS * (size - 1 - i))) & BUTTON_MASK;
        }

        /** The least button stands in the least column. Only for settings that have buttons. */
        int placeOf(int k) {
            return buttonAt(k, 0) / ROWS;
        }
    }

    /** A board, the good settings of each beat on it, and which of them the hand takes. */
    private static final class Hand {
        final Board board = new Board();
        final Goods[] goods = new Goods[MOST_BEATS];
        final int[] chosen = new int[MOST_BEATS];
        int jumped = 0;
        /** By beat and setting: the fewest jumps from there to the end. */
        private final int[][] jumpsToCome = new int[MOST_BEATS][MOST_GOOD];

        /** The system as at first and no beats: there is nothing to choose yet. */
        Hand() {
            board.tune(FIRST_BASE, ALL_ROWS);
            for (int beat = 0; beat < MOST_BEATS; beat++) {
                goods[beat] = new Goods();
            }
        }

        /** The good settings of a desk's beats in a system that need not be the desk's own. */
        void learn(int base, int rows, Desk desk) {
            board.tune(base, rows);
            for (int beat = 0; beat < desk.beats; beat++) {
                goods[beat].find(board, desk.chords[beat], desk.lows[beat]);
            }
        }

        void choose(int beats) {
            lookAhead(beats);
            jumped = 0;
            int previous = NO_BEAT;
            for (int beat = 0; beat < beats; beat++) {
                chosen[beat] = 0;
                if (goods[beat].size > 0) {
                    chosen[beat] = firstBest(previous, beat);
                    jumped += jumpFromChosen(previous, beat, chosen[beat]);
                    previous = beat;
                }
            }
        }

        private void lookAhead(int beats) {
            int next = NO_BEAT;
            for (int beat = beats - 1; beat >= 0; beat--) {
                if (goods[beat].size > 0) {
                    for (int k = 0; k < goods[beat].count; k++) {
                        jumpsToCome[beat][k] = next == NO_BEAT ? 0 : fewestOnward(goods[beat].placeOf(k), next);
                    }
                    next = beat;
                }
            }
        }

        private int fewestOnward(int place, int next) {
            int fewest = ABOVE_ALL;
            for (int k = 0; k < goods[next].count; k++) {
                int jump = Math.abs(place - goods[next].placeOf(k));
                fewest = Math.min(fewest, jump + jumpsToCome[next][k]);
            }
            return fewest;
        }

        private int firstBest(int previous, int beat) {
            int best = 0;
            int fewest = ABOVE_ALL;
            for (int k = 0; k < goods[beat].count; k++) {
                int all = jumpFromChosen(previous, beat, k) + jumpsToCome[beat][k];
                if (all < fewest) {
                    fewest = all;
                    best = k;
                }
            }
            return best;
        }

        private int jumpFromChosen(int previous, int beat, int k) {
            if (previous == NO_BEAT) {
                return 0;
            }
            return Math.abs(goods[previous].placeOf(chosen[previous]) - goods[beat].placeOf(k));
        }

        int notesOf(int beat) {
            int together = 0;
            for (int i = 0; i < goods[beat].size; i++) {
                together |= board.notes[goods[beat].buttonAt(chosen[beat], i)];
            }
            return together;
        }

        boolean hasSameButtons(Hand other, int beat) {
            return goods[beat].size == other.goods[beat].size
                && goods[beat].codes[chosen[beat]] == other.goods[beat].codes[other.chosen[beat]];
        }

        int lackOfAll(int beats) {
            int all = 0;
            for (int beat = 0; beat < beats; beat++) {
                all += goods[beat].lack;
            }
            return all;
        }

        int extraOfAll(int beats) {
            int all = 0;
            for (int beat = 0; beat < beats; beat++) {
                all += goods[beat].extra;
            }
            return all;
        }

        int buttonsOfAll(int beats) {
            int all = 0;
            for (int beat = 0; beat < beats; beat++) {
                all += goods[beat].size;
            }
            return all;
        }
    }

    /**
     * The way that the bellows go through a piece.
     *
     * <p>A way is a number with a bit for each beat, the first beat's the highest, 0 for out: so
     * rising numbers are ways in the document's order, and the first of the cheapest is the one.
     */
    private static final class Bellows {
        final int[] uses = new int[MOST_BEATS];
        private final int[] marks = new int[MOST_BEATS];
        private int beats = 0;
        /** Or NO_WAY; 0 is also the one way through no beats, as at first. */
        int way = 0;
        int price = 0;
        /** Above MOST_ROOM where no room is enough. */
        int leastRoom = 1;

        void load(Desk desk, Hand hand) {
            beats = desk.beats;
            for (int beat = 0; beat < beats; beat++) {
                uses[beat] = desk.lengths[beat] * desk.register * Integer.bitCount(hand.notesOf(beat));
                marks[beat] = desk.marks[beat];
            }
        }

        void choose(int start, int room) {
            way = NO_WAY;
            price = ABOVE_ALL;
            leastRoom = ABOVE_ALL;
            for (int tried = 0; tried < 1 << beats; tried++) {
                int peak = turnsWhenTied(tried) ? NO_WAY : peakOf(tried, start);
                if (peak == NO_WAY) {
                    continue;
                }
                // A room is never below 1, even where no air is used.
                leastRoom = Math.min(leastRoom, Math.max(peak, 1));
                int triedPrice = priceOf(tried);
                if (peak <= room && triedPrice < price) {
                    way = tried;
                    price = triedPrice;
                }
            }
        }

        boolean hasWay() {
            return way != NO_WAY;
        }

        boolean goesOut(int tried, int beat) {
            return ((tried >> (beats - 1 - beat)) & 1) == 0;
        }

        private boolean turnsAt(int tried, int beat) {
            return beat > 0 && goesOut(tried, beat) != goesOut(tried, beat - 1);
        }

        private boolean turnsWhenTied(int tried) {
            for (int beat = 1; beat < beats; beat++) {
                if (marks[beat] == TIED && turnsAt(tried, beat)) {
                    return true;
                }
            }
            return false;
        }

        private int airMoved(int tried, int beat) {
            return goesOut(tried, beat) ? uses[beat] : -uses[beat];
        }

        /** The most air on a way, or NO_WAY where there would be less than none. */
        private int peakOf(int tried, int start) {
            int air = start;
            int peak = start;
            for (int beat = 0; beat < beats; beat++) {
                air += airMoved(tried, beat);
                if (air < 0) {
                    return NO_WAY;
                }
                peak = Math.max(peak, air);
            }
            return peak;
        }

        private int priceOf(int tried) {
            int sum = 0;
            for (int beat = 1; beat < beats; beat++) {
                if (turnsAt(tried, beat)) {
                    sum += TURN_COSTS[marks[beat]];
                }
            }
            return sum;
        }

        int turnsOf(int tried) {
            int turns = 0;
            for (int beat = 1; beat < beats; beat++) {
                if (turnsAt(tried, beat)) {
                    turns++;
                }
            }
            return turns;
        }

        int airBehind(int beat, int start) {
            int air = start;
            for (int b = 0; b <= beat; b++) {
                air += airMoved(way, b);
            }
            return air;
        }
    }
}
