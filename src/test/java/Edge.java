/** Numbers that the tests of boundary cases share. */
final class Edge {
    static final int NUMBER = BassButtons.NUMBER;
    static final int FULL = BassButtons.FULL;
    static final int NONE = BassButtons.NONE;
    static final int NOT_OF_BEAT = -9;

    static final int NO_MARK = 0;
    static final int REST = 1;
    static final int STRONG = 2;
    static final int TIED = 3;

    static final int C = notes(0);
    static final int C_MAJOR = notes(0, 4, 7);
    static final int C_SEVENTH = notes(0, 4, 7, 10);
    static final int F_SHARP_MAJOR = notes(6, 10, 1);
    static final int F_MAJOR = notes(5, 9, 0);

    private Edge() { }

    static int notes(int... together) {
        int bits = 0;
        for (int note : together) {
            bits |= 1 << note;
        }
        return bits;
    }

    /** What lies just outside of least to most, and as far outside as a number can. */
    static int[] outside(int least, int most) {
        return new int[] {least - 1, most + 1, Integer.MIN_VALUE, Integer.MAX_VALUE};
    }

    /** Beats of length 1 without mark and without low note. */
    static BassButtons chords(int... chords) {
        BassButtons x = new BassButtons();
        for (int chord : chords) {
            x.beat(chord, -1, 1, NO_MARK);
        }
        return x;
    }

    /** Beats of C major, three notes each, told by length and mark. */
    static BassButtons bellows(int start, int room, int... lengthsAndMarks) {
        BassButtons x = new BassButtons();
        x.rule(1, room);
        x.rule(2, start);
        for (int i = 0; i + 1 < lengthsAndMarks.length; i += 2) {
            x.beat(C_MAJOR, -1, lengthsAndMarks[i], lengthsAndMarks[i + 1]);
        }
        return x;
    }

    /** Eight beats, one more than which are too many. */
    static BassButtons full() {
        BassButtons x = new BassButtons();
        for (int i = 0; i < 8; i++) {
            x.beat(C_MAJOR, i, 1 + i, i % 4);
        }
        return x;
    }

    static void dueGood(Check check, BassButtons x, int beat, int... due) {
        for (int what = 0; what < 4; what++) {
            check.due("good(" + beat + ", " + what + ")", x.good(beat, what), due[what]);
        }
    }

    static void dueButtons(Check check, BassButtons x, int beat, int k, int... due) {
        for (int i = 0; i < due.length; i++) {
            check.due("button(" + beat + ", " + k + ", " + i + ")", x.button(beat, k, i), due[i]);
        }
        check.due("button(" + beat + ", " + k + ", " + due.length + ")", x.button(beat, k, due.length), NONE);
    }

    static void dueBeat(Check check, BassButtons x, int beat, int... due) {
        for (int what = 0; what < 4; what++) {
            check.due("of(" + beat + ", " + what + ")", x.of(beat, what), due[what]);
        }
    }

    /** What the bellows do: what they cost and how they go (1 out, 0 in) in each beat. */
    static void dueWay(Check check, BassButtons x, int cost, int... outs) {
        check.due("cost()", x.cost(), cost);
        for (int beat = 0; beat < outs.length; beat++) {
            check.due("bellows(" + beat + ")", x.bellows(beat), outs[beat]);
        }
    }

    static void dueNoWay(Check check, BassButtons x) {
        check.due("cost()", x.cost(), NONE);
    }

    static void dueAir(Check check, BassButtons x, int... airs) {
        for (int beat = 0; beat < airs.length; beat++) {
            check.due("air(" + beat + ")", x.air(beat), airs[beat]);
        }
    }
}
