/** Promises 10 to 15 and the counts of 21 that tell of settings: good, button, hand, jumps, sounds, changed. */
public final class HandTest {
    private static final int C_MAJOR = 145;
    private static final int G_MAJOR = 2180;
    private static final int F_SHARP_MAJOR = 1090;
    private static final int NOTE_C = 1;
    private static final int[] WRONG_NUMBERS = {-1, 8, Integer.MIN_VALUE, Integer.MAX_VALUE};
    private static final Check CHECK = new Check("HandTest");

    public static void main(String[] args) {
        lowNoteHasTwoButtons();
        lowNoteWithoutAButtonLacks();
        lowButtonStandsInRisingOrder();
        noChordAndNoLowNote();
        onlyTheLowNote();
        oneNoteHasTwelveSettings();
        extraIsCountedOnce();
        lessLackComesAheadOfLessExtra();
        twentyAtMost();
        questionsAreRefused();
        handTakesTheNearest();
        handTakesTheLesserNumber();
        beatsWithoutButtonsAreSkipped();
        soundsOfTheHand();
        changedCountsBeats();
        changedIsRefused();
        countsOfAll();
        CHECK.end();
    }

    private static void dueGood(BassButtons x, int beat, int... due) {
        for (int what = 0; what < 4; what++) {
            CHECK.due("good(" + beat + ", " + what + ")", x.good(beat, what), due[what]);
        }
    }

    private static void dueButtons(BassButtons x, int beat, int k, int... due) {
        for (int i = 0; i < due.length; i++) {
            CHECK.due("button(" + beat + ", " + k + ", " + i + ")", x.button(beat, k, i), due[i]);
        }
        CHECK.due("no more buttons", x.button(beat, k, due.length), BassButtons.NONE);
    }

    private static void lowNoteHasTwoButtons() {
        BassButtons x = new BassButtons();
        x.beat(C_MAJOR, 0, 1, 0);
        dueGood(x, 0, 0, 0, 2, 2);
        dueButtons(x, 0, 0, 1, 2);
        dueButtons(x, 0, 1, 2, 48);
        x.system(0, 63 - 1);
        dueGood(x, 0, 0, 0, 2, 1);
        dueButtons(x, 0, 0, 1, 2);
        x.system(0, 63 - 2);
        dueGood(x, 0, 0, 0, 2, 1);
        dueButtons(x, 0, 0, 2, 48);
    }

    private static void lowNoteWithoutAButtonLacks() {
        BassButtons x = new BassButtons();
        x.system(0, 60);
        x.beat(C_MAJOR, 0, 1, 0);
        dueGood(x, 0, 1, 0, 1, 1);
        dueButtons(x, 0, 0, 2);
        x.beat(C_MAJOR, -1, 1, 0);
        dueGood(x, 1, 0, 0, 1, 1);
        x.system(0, 0);
        dueGood(x, 0, 4, 0, 0, 1);
        dueGood(x, 1, 3, 0, 0, 1);
    }

    private static void lowButtonStandsInRisingOrder() {
        BassButtons x = new BassButtons();
        // Note 2 is the bass of column 2 (13) and the counter of column 10 (60).
        x.beat(C_MAJOR | 1 << 10, 2, 1, 0);
        dueGood(x, 0, 0, 0, 3, 6);
        dueButtons(x, 0, 0, 2, 4, 13);
        dueButtons(x, 0, 1, 2, 4, 60);
        dueButtons(x, 0, 2, 2, 11, 13);
        dueButtons(x, 0, 3, 2, 11, 60);
        dueButtons(x, 0, 4, 4, 11, 13);
        dueButtons(x, 0, 5, 4, 11, 60);
        // Note 4 is the counter of column 0 (0) and the bass of column 4 (25).
        x.alter(0, C_MAJOR | 1 << 10, 4, 1, 0);
        dueButtons(x, 0, 0, 0, 2, 4);
        dueButtons(x, 0, 2, 0, 4, 11);
        dueButtons(x, 0, 5, 4, 11, 25);
        // Note 11 is the counter of column 1 (6) and the bass of column 5 (31).
        x.alter(0, C_MAJOR | 1 << 10, 11, 1, 0);
        dueButtons(x, 0, 0, 2, 4, 6);
        dueButtons(x, 0, 2, 2, 6, 11);
        dueButtons(x, 0, 3, 2, 11, 31);
    }

    private static void noChordAndNoLowNote() {
        BassButtons x = new BassButtons();
        x.beat(0, -1, 1, 0);
        dueGood(x, 0, 0, 0, 0, 1);
        dueButtons(x, 0, 0);
        CHECK.due("no second setting", x.button(0, 1, 0), BassButtons.NONE);
        CHECK.due("hand", x.hand(0), 0);
        CHECK.due("sounds", x.sounds(0), 0);
    }

    private static void onlyTheLowNote() {
        BassButtons x = new BassButtons();
        x.beat(0, 0, 1, 0);
        dueGood(x, 0, 0, 0, 1, 2);
        dueButtons(x, 0, 0, 1);
        dueButtons(x, 0, 1, 48);
        x.beat(0, 11, 1, 0);
        // Note 11 is the counter of column 1 (6) and the bass of column 5 (31).
        dueButtons(x, 1, 0, 6);
        dueButtons(x, 1, 1, 31);
    }

    private static void oneNoteHasTwelveSettings() {
        BassButtons x = new BassButtons();
        x.beat(NOTE_C, -1, 1, 0);
        dueGood(x, 0, 0, 2, 1, 12);
        int[] due = {2, 3, 4, 5, 16, 21, 23, 50, 52, 59, 68, 69};
        for (int k = 0; k < due.length; k++) {
            dueButtons(x, 0, k, due[k]);
        }
        CHECK.due("button(0, 12, 0)", x.button(0, 12, 0), BassButtons.NONE);
    }

    private static void extraIsCountedOnce() {
        BassButtons x = new BassButtons();
        // 0, 4, 7 (major) and 1, 4, 7 (diminished) have both extra notes in common.
        x.beat(3, -1, 1, 0);
        CHECK.due("lack", x.good(0, 0), 0);
        CHECK.due("extra", x.good(0, 1), 2);
        CHECK.due("buttons", x.good(0, 2), 2);
    }

    private static void lessLackComesAheadOfLessExtra() {
        BassButtons x = new BassButtons();
        x.system(0, 4);
        // Major chords alone: 0, 4, 7 fits three of four; the fourth note comes with 3, 7, 10, which
        // has one note that is too much; 10, 2, 5 and 6, 10, 1 have two.
        x.beat(C_MAJOR | 1 << 10, -1, 1, 0);
        dueGood(x, 0, 0, 1, 2, 1);
        dueButtons(x, 0, 0, 2, 56);
    }

    private static void twentyAtMost() {
        BassButtons x = new BassButtons();
        x.system(5, 32);
        x.beat(4095, -1, 1, 0);
        CHECK.due("twenty", x.good(0, 3), 20);
        CHECK.due("button(0, 19, 0)", x.button(0, 19, 0), 17);
        CHECK.due("button(0, 20, 0)", x.button(0, 20, 0), BassButtons.NONE);
    }

    private static void questionsAreRefused() {
        BassButtons x = new BassButtons();
        CHECK.due("good of none", x.good(0, 0), BassButtons.NUMBER);
        CHECK.due("hand of none", x.hand(0), BassButtons.NUMBER);
        CHECK.due("button of none", x.button(0, 0, 0), BassButtons.NUMBER);
        CHECK.due("sounds of none", x.sounds(0), BassButtons.NUMBER);
        x.beat(C_MAJOR, 0, 1, 0);
        for (int beat : WRONG_NUMBERS) {
            CHECK.due("good(" + beat + ", 0)", x.good(beat, 0), BassButtons.NUMBER);
            CHECK.due("button(" + beat + ", 9, 9)", x.button(beat, 9, 9), BassButtons.NUMBER);
            CHECK.due("hand(" + beat + ")", x.hand(beat), BassButtons.NUMBER);
            CHECK.due("sounds(" + beat + ")", x.sounds(beat), BassButtons.NUMBER);
        }
        for (int number : new int[] {-1, 4, Integer.MIN_VALUE, Integer.MAX_VALUE}) {
            CHECK.due("good(0, " + number + ")", x.good(0, number), BassButtons.NUMBER);
            CHECK.due("button(0, " + number + ", 0)", x.button(0, number, 0), BassButtons.NONE);
            CHECK.due("button(0, 0, " + number + ")", x.button(0, 0, number), BassButtons.NONE);
        }
    }

    private static void handTakesTheNearest() {
        BassButtons x = new BassButtons();
        x.beat(F_SHARP_MAJOR, -1, 1, 0);
        x.beat(NOTE_C, -1, 1, 0);
        CHECK.due("place 6", x.button(0, 0, 0), 38);
        CHECK.due("place 8 is nearest", x.hand(1), 7);
        CHECK.due("jumps", x.jumps(), 2);
    }

    private static void handTakesTheLesserNumber() {
        BassButtons x = new BassButtons();
        x.beat(F_SHARP_MAJOR, -1, 1, 0);
        x.beat(NOTE_C, -1, 1, 0);
        x.beat(C_MAJOR, -1, 1, 0);
        CHECK.due("all on the way down jump 6", x.jumps(), 6);
        CHECK.due("the first of them", x.hand(1), 0);
        x.alter(2, NOTE_C, -1, 1, 0);
        CHECK.due("with a free end", x.jumps(), 2);
        CHECK.due("both stay", x.hand(1), 7);
        CHECK.due("at the same place", x.hand(2), 7);
        x.alter(0, NOTE_C, -1, 1, 0);
        CHECK.due("all free", x.jumps(), 0);
        CHECK.due("first", x.hand(0), 0);
        CHECK.due("last", x.hand(2), 0);
    }

    private static void beatsWithoutButtonsAreSkipped() {
        BassButtons x = new BassButtons();
        x.beat(0, -1, 1, 0);
        x.beat(F_SHARP_MAJOR, -1, 1, 0);
        x.beat(0, -1, 1, 0);
        x.beat(0, -1, 1, 0);
        x.beat(NOTE_C, -1, 1, 0);
        x.beat(0, -1, 1, 0);
        CHECK.due("jumps over rests", x.jumps(), 2);
        CHECK.due("hand(0)", x.hand(0), 0);
        CHECK.due("hand(2)", x.hand(2), 0);
        CHECK.due("hand(4)", x.hand(4), 7);
        CHECK.due("hand(5)", x.hand(5), 0);
    }

    private static void soundsOfTheHand() {
        BassButtons x = new BassButtons();
        x.beat(C_MAJOR, 2, 1, 0);
        CHECK.due("chord and low note", x.sounds(0), C_MAJOR | 4);
        x.beat(NOTE_C, -1, 1, 0);
        CHECK.due("extra notes sound too", x.sounds(1), C_MAJOR);
        x.system(0, 2);
        CHECK.due("the bass alone", x.sounds(0), 4);
        CHECK.due("nothing", x.sounds(1), 0);
    }

    private static void changedCountsBeats() {
        BassButtons x = new BassButtons();
        CHECK.due("no beats", x.changed(5, 5), 0);
        x.beat(C_MAJOR, 0, 1, 0);
        x.beat(0, -1, 1, 0);
        x.beat(G_MAJOR, 7, 1, 0);
        x.beat(C_MAJOR, -1, 1, 0);
        CHECK.due("the same system", x.changed(0, 63), 0);
        CHECK.due("rows that aren't used", x.changed(0, 7), 0);
        CHECK.due("without basses", x.changed(0, 61), 2);
        CHECK.due("no rows", x.changed(0, 0), 3);
        CHECK.due("another base", x.changed(1, 63), 3);
        CHECK.due("base stays", x.many(6), 0);
        CHECK.due("rows stay", x.many(7), 63);
        CHECK.due("settings stay", x.button(0, 0, 0), 1);
        x.system(0, 61);
        CHECK.due("and back", x.changed(0, 63), 2);
    }

    private static void changedIsRefused() {
        BassButtons x = new BassButtons();
        x.beat(C_MAJOR, 0, 1, 0);
        for (int base : new int[] {-1, 12, Integer.MIN_VALUE, Integer.MAX_VALUE}) {
            CHECK.due("changed(" + base + ", 63)", x.changed(base, 63), BassButtons.NUMBER);
        }
        for (int rows : new int[] {-1, 64, Integer.MIN_VALUE, Integer.MAX_VALUE}) {
            CHECK.due("changed(0, " + rows + ")", x.changed(0, rows), BassButtons.NUMBER);
        }
    }

    private static void countsOfAll() {
        BassButtons x = new BassButtons();
        x.system(0, 60);
        x.beat(C_MAJOR, 0, 1, 0);
        x.beat(NOTE_C, 3, 1, 0);
        x.beat(3, -1, 1, 0);
        CHECK.due("lack of all", x.many(2), 2);
        CHECK.due("extra of all", x.many(3), 4);
        CHECK.due("buttons of all", x.many(4), 4);
        CHECK.due("buttons that are there", x.many(1), 48);
    }
}
