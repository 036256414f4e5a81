/** The boundary cases that the sentences of promises 10 to 15 name, a test for each sentence. */
public final class HandEdgeTest {
    private static final Check CHECK = new Check("HandEdgeTest");

    public static void main(String[] args) {
        goodPromise();
        buttonPromise();
        handPromise();
        changedPromise();
        CHECK.end();
    }

    private static void goodPromise() {
        goodTellsTheLeastAndTheMost();
        goodTellsTwentyAtMost();
        goodRefusesABeat();
        goodRefusesAnotherWhat();
    }

    private static void buttonPromise() {
        buttonsRiseFromZero();
        buttonRefusesABeat();
        buttonHasNoneSuch();
    }

    private static void handPromise() {
        handOfTheFirstAndLast();
        handRefusesABeat();
        jumpsOfNoneAndOfMost();
        soundsOfNothingAndOfMost();
        soundsRefusesABeat();
    }

    private static void changedPromise() {
        changedFromNoneToAll();
        changedWithAndWithoutButtons();
        changedComparesTheHand();
        changedChangesNothing();
        changedRefusesASystem();
    }

    private static void goodTellsTheLeastAndTheMost() {
        CHECK.sentence("Promise 10: what = 0 how much they LACK, 1 how many EXTRA, 2 how many BUTTONS, 3 how many of them there are");
        BassButtons x = new BassButtons();
        x.beat(0, -1, 1, 0);
        Edge.dueGood(CHECK, x, 0, 0, 0, 0, 1);
        x.alter(0, 4095, 11, 1, 0);
        x.system(0, 0);
        Edge.dueGood(CHECK, x, 0, 13, 0, 0, 1);
        x.system(0, 32);
        x.alter(0, Edge.notes(0, 1), -1, 1, 0);
        Edge.dueGood(CHECK, x, 0, 0, 4, 2, 9);
        x.system(0, 63);
        x.alter(0, Edge.C_SEVENTH, 2, 1, 0);
        Edge.dueGood(CHECK, x, 0, 0, 0, 3, 6);
    }

    private static void goodTellsTwentyAtMost() {
        CHECK.sentence("Promise 10: 3 how many of them there are (20 at most)");
        BassButtons x = new BassButtons();
        x.beat(Edge.C, 6, 1, 0);
        CHECK.due("20 of 24", x.good(0, 3), 20);
        x.system(0, 31);
        CHECK.due("18 of 18", x.good(0, 3), 18);
        x.system(0, 61);
        CHECK.due("12 of 12", x.good(0, 3), 12);
        x.system(0, 63);
        x.alter(0, Edge.notes(0, 5, 7), 10, 1, 0);
        CHECK.due("20 of 20", x.good(0, 3), 20);
        x.alter(0, Edge.C_MAJOR, -1, 1, 0);
        CHECK.due("1 of 1", x.good(0, 3), 1);
    }

    private static void goodRefusesABeat() {
        CHECK.sentence("Promise 10: NUMBER: there is no such BEAT");
        for (int what = 0; what < 4; what++) {
            CHECK.due("good(0, " + what + ") of no beats", new BassButtons().good(0, what), Edge.NUMBER);
            CHECK.due("good(1, " + what + ") of one", Edge.chords(1).good(1, what), Edge.NUMBER);
            for (int beat : Edge.outside(0, 7)) {
                CHECK.due("good(" + beat + ", " + what + ")", Edge.full().good(beat, what), Edge.NUMBER);
            }
        }
    }

    private static void goodRefusesAnotherWhat() {
        CHECK.sentence("Promise 10: NUMBER: another what");
        for (int what : Edge.outside(0, 3)) {
            CHECK.due("good(0, " + what + ")", Edge.full().good(0, what), Edge.NUMBER);
            CHECK.due("good(8, " + what + ")", Edge.full().good(8, what), Edge.NUMBER);
        }
    }

    private static void buttonsRiseFromZero() {
        CHECK.sentence("Promise 11: BUTTON i (rising, from 0 on) of GOOD SETTING k of a BEAT");
        BassButtons x = new BassButtons();
        // Button 0 is the least of all, 71 the greatest.
        x.beat(Edge.C_MAJOR, 4, 1, 0);
        Edge.dueButtons(CHECK, x, 0, 0, 0, 2);
        Edge.dueButtons(CHECK, x, 0, 1, 2, 25);
        x.beat(Edge.notes(5, 8, 2), -1, 1, 0);
        Edge.dueButtons(CHECK, x, 1, 0, 71);
        x.beat(Edge.notes(5, 8, 2), 4, 1, 0);
        Edge.dueButtons(CHECK, x, 2, 0, 0, 71);
        Edge.dueButtons(CHECK, x, 2, 1, 25, 71);
        x.beat(Edge.C_SEVENTH, 11, 1, 0);
        Edge.dueButtons(CHECK, x, 3, 0, 2, 4, 6);
        Edge.dueButtons(CHECK, x, 3, 5, 4, 11, 31);
    }

    private static void buttonRefusesABeat() {
        CHECK.sentence("Promise 11: NUMBER: there is no such BEAT");
        CHECK.due("button(0, 0, 0) of no beats", new BassButtons().button(0, 0, 0), Edge.NUMBER);
        CHECK.due("button(1, 0, 0) of one", Edge.chords(1).button(1, 0, 0), Edge.NUMBER);
        for (int beat : Edge.outside(0, 7)) {
            CHECK.due("button(" + beat + ", 0, 0)", Edge.full().button(beat, 0, 0), Edge.NUMBER);
            CHECK.due("button(" + beat + ", -1, 9)", Edge.full().button(beat, -1, 9), Edge.NUMBER);
        }
    }

    private static void buttonHasNoneSuch() {
        CHECK.sentence("Promise 11: NONE: there is none such");
        BassButtons x = new BassButtons();
        x.beat(Edge.C_MAJOR, 0, 1, 0);
        for (int k : Edge.outside(0, 1)) {
            CHECK.due("button(0, " + k + ", 0) of two settings", x.button(0, k, 0), Edge.NONE);
        }
        for (int i : Edge.outside(0, 1)) {
            CHECK.due("button(0, 1, " + i + ") of two buttons", x.button(0, 1, i), Edge.NONE);
        }
        x.alter(0, Edge.C_SEVENTH, 2, 1, 0);
        for (int i : Edge.outside(0, 2)) {
            CHECK.due("button(0, 5, " + i + ") of three buttons", x.button(0, 5, i), Edge.NONE);
        }
        x.alter(0, Edge.C, 6, 1, 0);
        CHECK.due("the twentieth", x.button(0, 19, 0), 37);
        for (int k : Edge.outside(0, 19)) {
            CHECK.due("button(0, " + k + ", 0) of twenty settings", x.button(0, k, 0), Edge.NONE);
        }
        x.alter(0, 0, -1, 1, 0);
        for (int i : new int[] {-1, 0, 1, Integer.MIN_VALUE, Integer.MAX_VALUE}) {
            CHECK.due("button(0, 0, " + i + ") of no buttons", x.button(0, 0, i), Edge.NONE);
            CHECK.due("button(0, 1, " + i + ") of no buttons", x.button(0, 1, i), Edge.NONE);
        }
    }

    private static void handOfTheFirstAndLast() {
        CHECK.sentence("Promise 12: The number of the GOOD SETTING that THE HAND gives a BEAT");
        CHECK.due("of the only setting", Edge.chords(Edge.C_MAJOR).hand(0), 0);
        CHECK.due("of the setting without buttons", Edge.chords(0).hand(0), 0);
        int f = Edge.F_MAJOR;
        BassButtons first = Edge.chords(Edge.C, f, f, f, f, f, f, f);
        CHECK.due("of the first of eight", first.hand(0), 10);
        BassButtons last = Edge.chords(f, f, f, f, f, f, f, Edge.C);
        CHECK.due("of the last of eight", last.hand(7), 10);
        last.alter(6, Edge.C_MAJOR, -1, 1, 0);
        CHECK.due("of the last, behind another", last.hand(7), 0);
        first.alter(0, 0, -1, 1, 0);
        CHECK.due("of the first, once it has no buttons", first.hand(0), 0);
        first.alter(0, Edge.C, -1, 1, 0);
        first.system(0, 0);
        CHECK.due("of the first, once there are no buttons", first.hand(0), 0);
        BassButtons twentieth = Edge.chords(f);
        twentieth.beat(Edge.C, 9, 1, 0);
        CHECK.due("the twentieth setting", twentieth.hand(1), 19);
    }

    private static void handRefusesABeat() {
        CHECK.sentence("Promise 12: NUMBER: there is none such");
        CHECK.due("hand(0) of no beats", new BassButtons().hand(0), Edge.NUMBER);
        CHECK.due("hand(1) of one", Edge.chords(1).hand(1), Edge.NUMBER);
        for (int beat : Edge.outside(0, 7)) {
            CHECK.due("hand(" + beat + ")", Edge.full().hand(beat), Edge.NUMBER);
        }
    }

    private static void jumpsOfNoneAndOfMost() {
        CHECK.sentence("Promise 13: How many JUMPS THE HAND has");
        int c = Edge.C_MAJOR;
        int f = Edge.F_MAJOR;
        BassButtons x = Edge.chords(c, f, c, f, c, f, c, f);
        for (int beats = 8; beats > 0; beats--) {
            CHECK.due("jumps() of " + beats, x.jumps(), 11 * (beats - 1));
            x.drop();
        }
        CHECK.due("jumps() of no beats", x.jumps(), 0);
        BassButtons none = Edge.chords(c, f);
        none.system(0, 0);
        CHECK.due("jumps() of no buttons", none.jumps(), 0);
    }

    private static void soundsOfNothingAndOfMost() {
        CHECK.sentence("Promise 14: What a BEAT sounds in THE HAND, as bits");
        BassButtons x = new BassButtons();
        x.beat(0, -1, 1, 0);
        CHECK.due("nothing is wanted", x.sounds(0), 0);
        x.alter(0, Edge.notes(0, 4, 7, 2, 6, 9), 1, 1, 0);
        CHECK.due("seven notes", x.sounds(0), Edge.notes(0, 4, 7, 2, 6, 9, 1));
        x.alter(0, 0, 11, 1, 0);
        CHECK.due("the highest note alone", x.sounds(0), 2048);
        x.alter(0, Edge.C, -1, 1, 0);
        CHECK.due("what is too much sounds too", x.sounds(0), Edge.C_MAJOR);
        x.beat(Edge.F_MAJOR, -1, 1, 0);
        CHECK.due("another setting, another sound", x.sounds(0), Edge.F_MAJOR);
        x.system(0, 0);
        CHECK.due("nothing is there", x.sounds(0), 0);
    }

    private static void soundsRefusesABeat() {
        CHECK.sentence("Promise 14: NUMBER: there is none such");
        CHECK.due("sounds(0) of no beats", new BassButtons().sounds(0), Edge.NUMBER);
        CHECK.due("sounds(1) of one", Edge.chords(1).sounds(1), Edge.NUMBER);
        for (int beat : Edge.outside(0, 7)) {
            CHECK.due("sounds(" + beat + ")", Edge.full().sounds(beat), Edge.NUMBER);
        }
    }

    private static void changedFromNoneToAll() {
        CHECK.sentence("Promise 15: How many BEATS would have other BUTTONS in THE HAND");
        for (int base : new int[] {0, 11}) {
            for (int rows : new int[] {0, 63}) {
                CHECK.due("changed(" + base + ", " + rows + ") of no beats", new BassButtons().changed(base, rows), 0);
            }
        }
        BassButtons x = Edge.full();
        CHECK.due("the same system", x.changed(0, 63), 0);
        CHECK.due("no buttons at all", x.changed(0, 0), 8);
        CHECK.due("another base", x.changed(11, 63), 8);
        CHECK.due("none of the rows that are used", x.changed(0, 56), 8);
        x.system(11, 7);
        CHECK.due("the same system, another one", x.changed(11, 7), 0);
        CHECK.due("rows that none needs", x.changed(11, 63), 0);
        x.system(11, 0);
        CHECK.due("from no buttons to no buttons", x.changed(0, 0), 0);
    }

    private static void changedWithAndWithoutButtons() {
        CHECK.sentence("Promise 15: other BUTTONS: none ahead, none then, or none in both");
        BassButtons x = Edge.chords(0, Edge.C_MAJOR, 0, Edge.C);
        CHECK.due("to none: a beat of no chord stays", x.changed(0, 0), 2);
        CHECK.due("to basses alone", x.changed(0, 3), 2);
        x.system(0, 0);
        CHECK.due("from none", x.changed(0, 63), 2);
        BassButtons low = new BassButtons();
        low.beat(Edge.C_MAJOR, 0, 1, 0);
        CHECK.due("one button less", low.changed(0, 60), 1);
        CHECK.due("another low button", low.changed(0, 61), 1);
        CHECK.due("the low button of the hand stays", low.changed(0, 62), 0);
        low.system(0, 60);
        CHECK.due("one button more", low.changed(0, 63), 1);
        // A lack alone is no other button: the low note has none in both.
        CHECK.due("the same without a low button", low.changed(0, 4), 0);
    }

    private static void changedComparesTheHand() {
        CHECK.sentence("Promise 15: in THE HAND, if THE SYSTEM had this BASE and these ROWS");
        // Without the minor chords there are fewer settings, so the hand's has a lesser number, but it
        // is the same button 68.
        BassButtons x = Edge.chords(Edge.C, Edge.F_MAJOR);
        CHECK.due("the same buttons, other numbers", x.changed(0, 63 - 8), 0);
        CHECK.due("without major chords: other buttons for both", x.changed(0, 63 - 4), 2);
        BassButtons moved = Edge.chords(Edge.C_MAJOR);
        CHECK.due("the other base has it elsewhere", moved.changed(7, 63), 1);
        moved.alter(0, 4095, -1, 1, 0);
        CHECK.due("all notes: the same buttons in every base", moved.changed(7, 63), 0);
    }

    private static void changedChangesNothing() {
        CHECK.sentence("Promise 15: if THE SYSTEM had: it has not");
        BassButtons x = Edge.full();
        AllAnswers seen = new AllAnswers(Edge.full());
        x.changed(11, 0);
        x.changed(5, 33);
        seen.due(CHECK, "behind changed", x);
        BassButtons again = Edge.chords(Edge.F_MAJOR, Edge.C_MAJOR);
        for (int rows : new int[] {0, 32, 63, 4, 63}) {
            CHECK.due("changed(0, " + rows + ") behind others", again.changed(0, rows), (rows & 4) == 4 ? 0 : 2);
        }
    }

    private static void changedRefusesASystem() {
        CHECK.sentence("Promise 15: NUMBER: as of system()");
        for (BassButtons x : new BassButtons[] {new BassButtons(), Edge.full()}) {
            for (int base : Edge.outside(0, 11)) {
                CHECK.due("changed(" + base + ", 0)", x.changed(base, 0), Edge.NUMBER);
                CHECK.due("changed(" + base + ", 63)", x.changed(base, 63), Edge.NUMBER);
            }
            for (int rows : Edge.outside(0, 63)) {
                CHECK.due("changed(0, " + rows + ")", x.changed(0, rows), Edge.NUMBER);
                CHECK.due("changed(11, " + rows + ")", x.changed(11, rows), Edge.NUMBER);
            }
            CHECK.due("changed(0, 63)", x.changed(0, 63), 0);
        }
    }
}
