/** The boundary cases that the sentences of promises 6 to 9, 22 and 23 name, a test for each sentence. */
public final class PieceEdgeTest {
    private static final Check CHECK = new Check("PieceEdgeTest");

    public static void main(String[] args) {
        beatPromise();
        alterPromise();
        dropPromise();
        ofPromise();
        keepPromise();
        backPromise();
        CHECK.end();
    }

    private static void beatPromise() {
        beatTakesTheEdges();
        beatRefusesAChord();
        beatRefusesALowNote();
        beatRefusesALength();
        beatRefusesAMark();
        beatIsFull();
    }

    private static void alterPromise() {
        alterTakesTheFirstAndLast();
        alterRefusesABeat();
        alterRefusesAsBeat();
    }

    private static void dropPromise() {
        dropTellsHowManyThereAre();
        dropHasNone();
    }

    private static void ofPromise() {
        ofTellsTheEdges();
        ofRefusesABeat();
        ofRefusesAnotherWhat();
    }

    private static void keepPromise() {
        keepOfNothingAndOfAll();
        keepIsApart();
    }

    private static void backPromise() {
        backBringsEveryAnswer();
        backToTheLatest();
        whatWasKeptStays();
        backToMoreAndFewerBeats();
        backToARoomBelowStart();
        nothingIsKept();
    }

    private static void beatTakesTheEdges() {
        CHECK.sentence("Promise 6: A BEAT comes: its number");
        for (int[] edge : new int[][] {{0, -1, 1, 0}, {4095, 11, 8, 3}, {0, 0, 8, 0}, {4095, -1, 1, 3}}) {
            BassButtons x = new BassButtons();
            CHECK.due("as the first", x.beat(edge[0], edge[1], edge[2], edge[3]), 0);
            CHECK.due("as the second", x.beat(edge[0], edge[1], edge[2], edge[3]), 1);
            Edge.dueBeat(CHECK, x, 0, edge);
            Edge.dueBeat(CHECK, x, 1, edge);
        }
    }

    private static void beatRefusesAChord() {
        CHECK.sentence("Promise 6: NUMBER: chord isn't 0 to 4095");
        for (int chord : Edge.outside(0, 4095)) {
            BassButtons x = Edge.chords(Edge.C_MAJOR);
            CHECK.due("beat(" + chord + ", 0, 1, 0)", x.beat(chord, 0, 1, 0), Edge.NUMBER);
            CHECK.due("none came", x.many(0), 1);
        }
    }

    private static void beatRefusesALowNote() {
        CHECK.sentence("Promise 6: NUMBER: low not -1 to 11");
        for (int low : Edge.outside(-1, 11)) {
            BassButtons x = Edge.chords(Edge.C_MAJOR);
            CHECK.due("beat(0, " + low + ", 1, 0)", x.beat(0, low, 1, 0), Edge.NUMBER);
            CHECK.due("none came", x.many(0), 1);
        }
    }

    private static void beatRefusesALength() {
        CHECK.sentence("Promise 6: NUMBER: length not 1 to 8");
        for (int length : Edge.outside(1, 8)) {
            BassButtons x = Edge.chords(Edge.C_MAJOR);
            CHECK.due("beat(0, 0, " + length + ", 0)", x.beat(0, 0, length, 0), Edge.NUMBER);
            CHECK.due("none came", x.many(0), 1);
        }
    }

    private static void beatRefusesAMark() {
        CHECK.sentence("Promise 6: NUMBER: or mark not 0 to 3");
        for (int mark : Edge.outside(0, 3)) {
            BassButtons x = Edge.chords(Edge.C_MAJOR);
            CHECK.due("beat(0, 0, 1, " + mark + ")", x.beat(0, 0, 1, mark), Edge.NUMBER);
            CHECK.due("none came", x.many(0), 1);
        }
    }

    private static void beatIsFull() {
        CHECK.sentence("Promise 6: FULL");
        BassButtons x = Edge.full();
        CHECK.due("a ninth", x.beat(1, 1, 1, 1), Edge.FULL);
        CHECK.due("once more", x.beat(0, -1, 8, 3), Edge.FULL);
        CHECK.due("still eight", x.many(0), 8);
        Edge.dueBeat(CHECK, x, 7, Edge.C_MAJOR, 7, 8, 3);
        x.drop();
        CHECK.due("behind a drop", x.beat(1, 1, 1, 1), 7);
        CHECK.due("full again", x.beat(1, 1, 1, 1), Edge.FULL);
    }

    private static void alterTakesTheFirstAndLast() {
        CHECK.sentence("Promise 7: A BEAT becomes another one: 1");
        for (int beat : new int[] {0, 7}) {
            BassButtons x = Edge.full();
            CHECK.due("alter(" + beat + ") to the least", x.alter(beat, 0, -1, 1, 0), 1);
            Edge.dueBeat(CHECK, x, beat, 0, -1, 1, 0);
            CHECK.due("use follows", x.use(beat), 0);
            CHECK.due("alter(" + beat + ") to the most", x.alter(beat, 4095, 11, 8, 3), 1);
            Edge.dueBeat(CHECK, x, beat, 4095, 11, 8, 3);
            CHECK.due("settings follow", x.good(beat, 0), 6);
            CHECK.due("still eight", x.many(0), 8);
            int other = 7 - beat;
            Edge.dueBeat(CHECK, x, other, Edge.C_MAJOR, other, 1 + other, other % 4);
        }
    }

    private static void alterRefusesABeat() {
        CHECK.sentence("Promise 7: NUMBER: there is none such");
        CHECK.due("of no beats", new BassButtons().alter(0, 1, 1, 1, 1), Edge.NUMBER);
        BassButtons two = Edge.chords(1, 2);
        for (int beat : Edge.outside(0, 1)) {
            CHECK.due("alter(" + beat + ") of two", two.alter(beat, 1, 1, 1, 1), Edge.NUMBER);
        }
        BassButtons full = Edge.full();
        for (int beat : Edge.outside(0, 7)) {
            CHECK.due("alter(" + beat + ") of eight", full.alter(beat, 1, 1, 1, 1), Edge.NUMBER);
        }
        two.drop();
        CHECK.due("alter(1) behind a drop", two.alter(1, 1, 1, 1, 1), Edge.NUMBER);
        CHECK.due("none came", two.many(0), 1);
    }

    private static void alterRefusesAsBeat() {
        CHECK.sentence("Promise 7: NUMBER: or as of beat()");
        BassButtons x = Edge.full();
        for (int chord : Edge.outside(0, 4095)) {
            CHECK.due("alter(7, " + chord + ", ..)", x.alter(7, chord, 0, 1, 0), Edge.NUMBER);
        }
        for (int low : Edge.outside(-1, 11)) {
            CHECK.due("alter(7, 0, " + low + ", ..)", x.alter(7, 0, low, 1, 0), Edge.NUMBER);
        }
        for (int length : Edge.outside(1, 8)) {
            CHECK.due("alter(7, 0, 0, " + length + ", ..)", x.alter(7, 0, 0, length, 0), Edge.NUMBER);
        }
        for (int mark : Edge.outside(0, 3)) {
            CHECK.due("alter(7, 0, 0, 1, " + mark + ")", x.alter(7, 0, 0, 1, mark), Edge.NUMBER);
        }
        Edge.dueBeat(CHECK, x, 7, Edge.C_MAJOR, 7, 8, 3);
        CHECK.due("not FULL, though eight are there", x.alter(7, 0, 0, 1, 0), 1);
    }

    private static void dropTellsHowManyThereAre() {
        CHECK.sentence("Promise 8: The latest BEAT is no more: how many there are");
        BassButtons x = Edge.full();
        for (int left = 7; left >= 0; left--) {
            CHECK.due("drop()", x.drop(), left);
            CHECK.due("many(0)", x.many(0), left);
            CHECK.due("of(" + left + ", 0) is no more", x.of(left, 0), Edge.NOT_OF_BEAT);
            if (left > 0) {
                Edge.dueBeat(CHECK, x, left - 1, Edge.C_MAJOR, left - 1, left, (left - 1) % 4);
            }
        }
        CHECK.due("jumps of none", x.jumps(), 0);
        CHECK.due("a beat has number 0 again", x.beat(1, 1, 1, 1), 0);
    }

    private static void dropHasNone() {
        CHECK.sentence("Promise 8: NONE: there are none");
        BassButtons x = new BassButtons();
        CHECK.due("drop() of a new object", x.drop(), Edge.NONE);
        x.beat(1, 1, 1, 1);
        CHECK.due("drop() of the only one", x.drop(), 0);
        CHECK.due("drop() behind it", x.drop(), Edge.NONE);
        CHECK.due("and again", x.drop(), Edge.NONE);
        CHECK.due("many(0)", x.many(0), 0);
    }

    private static void ofTellsTheEdges() {
        CHECK.sentence("Promise 9: Of a BEAT: what = 0 CHORD, 1 LOW NOTE (-1), 2 LENGTH, 3 MARK");
        BassButtons x = new BassButtons();
        x.beat(0, -1, 1, 0);
        x.beat(4095, 11, 8, 3);
        Edge.dueBeat(CHECK, x, 0, 0, -1, 1, 0);
        Edge.dueBeat(CHECK, x, 1, 4095, 11, 8, 3);
    }

    private static void ofRefusesABeat() {
        CHECK.sentence("Promise 9: NUMBER is answered as -9: there is none such");
        CHECK.due("of no beats", new BassButtons().of(0, 0), -9);
        for (int what = 0; what < 4; what++) {
            for (int beat : Edge.outside(0, 7)) {
                CHECK.due("of(" + beat + ", " + what + ")", Edge.full().of(beat, what), -9);
            }
            CHECK.due("of(1, " + what + ") of one", Edge.chords(0).of(1, what), -9);
        }
    }

    private static void ofRefusesAnotherWhat() {
        CHECK.sentence("Promise 9: NUMBER is answered as -9: another what");
        for (int what : Edge.outside(0, 3)) {
            CHECK.due("of(0, " + what + ")", Edge.full().of(0, what), -9);
            CHECK.due("of(8, " + what + ")", Edge.full().of(8, what), -9);
        }
    }

    private static void keepOfNothingAndOfAll() {
        CHECK.sentence("Promise 22: THE SYSTEM, BEATS, THE REGISTER, ROOM, START are kept: 1");
        BassButtons empty = new BassButtons();
        CHECK.due("keep() of a new object", empty.keep(), 1);
        CHECK.due("keep() again", empty.keep(), 1);
        BassButtons x = Edge.full();
        x.system(11, 62);
        x.rule(0, 3);
        x.rule(1, 400);
        x.rule(2, 400);
        CHECK.due("keep() of all", x.keep(), 1);
        change(x);
        CHECK.due("back()", x.back(), 1);
        CHECK.due("base", x.many(6), 11);
        CHECK.due("rows", x.many(7), 62);
        CHECK.due("beats", x.many(0), 8);
        for (int beat = 0; beat < 8; beat++) {
            Edge.dueBeat(CHECK, x, beat, Edge.C_MAJOR, beat, 1 + beat, beat % 4);
        }
        CHECK.due("register", x.rule(0, 1), 3);
        CHECK.due("start", x.rule(2, 0), 400);
        CHECK.due("room", x.rule(1, 1), 400);
    }

    /** Everything that is kept becomes another. */
    private static void change(BassButtons x) {
        x.system(1, 21);
        x.rule(0, 2);
        x.rule(2, 7);
        x.rule(1, 9);
        for (int beat = 0; beat < x.many(0); beat++) {
            x.alter(beat, 1, 1, 1, 1);
        }
        x.drop();
    }

    private static void keepIsApart() {
        CHECK.sentence("Promise 22: are kept: and stay what they are");
        BassButtons x = Edge.full();
        x.keep();
        CHECK.due("beats stay", x.many(0), 8);
        Edge.dueBeat(CHECK, x, 7, Edge.C_MAJOR, 7, 8, 3);
        CHECK.due("base stays", x.many(6), 0);
        CHECK.due("register stays", x.rule(0, 1), 1);
        CHECK.due("a ninth is still too much", x.beat(1, 1, 1, 1), Edge.FULL);
    }

    private static void backBringsEveryAnswer() {
        CHECK.sentence("Promise 23: They become what was kept: so every answer is as it was");
        BassButtons none = new BassButtons();
        BassButtons way = Edge.chords(Edge.F_MAJOR, Edge.C, 0, 4095, Edge.C_SEVENTH);
        BassButtons noWay = Edge.full();
        noWay.rule(1, 5);
        for (BassButtons x : new BassButtons[] {none, way, noWay}) {
            AllAnswers seen = new AllAnswers(x);
            x.keep();
            change(x);
            x.back();
            seen.due(CHECK, "behind back()", x);
        }
    }

    private static void backToTheLatest() {
        CHECK.sentence("Promise 23: They become what was kept latest");
        BassButtons x = new BassButtons();
        x.keep();
        x.beat(1, 1, 1, 1);
        x.system(3, 33);
        x.keep();
        change(x);
        CHECK.due("back()", x.back(), 1);
        CHECK.due("beats", x.many(0), 1);
        Edge.dueBeat(CHECK, x, 0, 1, 1, 1, 1);
        CHECK.due("base", x.many(6), 3);
        CHECK.due("rows", x.many(7), 33);
        CHECK.due("sound(5) of it", x.sound(5), Edge.notes(3, 6, 0));
        CHECK.due("sound(1) of it", x.sound(1), Edge.NONE);
        CHECK.due("settings of it", x.good(0, 3), 3);
    }

    private static void whatWasKeptStays() {
        CHECK.sentence("Promise 23: (which stays): 1");
        BassButtons x = Edge.full();
        x.keep();
        for (int time = 0; time < 3; time++) {
            change(x);
            CHECK.due("back()", x.back(), 1);
            CHECK.due("and at once again", x.back(), 1);
            CHECK.due("beats", x.many(0), 8);
            for (int beat = 0; beat < 8; beat++) {
                Edge.dueBeat(CHECK, x, beat, Edge.C_MAJOR, beat, 1 + beat, beat % 4);
            }
            CHECK.due("base", x.many(6), 0);
            CHECK.due("register", x.rule(0, 1), 1);
        }
    }

    private static void backToMoreAndFewerBeats() {
        CHECK.sentence("Promise 23: They become what was kept: no BEATS and eight");
        BassButtons none = new BassButtons();
        none.keep();
        for (int i = 0; i < 8; i++) {
            none.beat(Edge.C_MAJOR, 0, 1, 0);
        }
        none.back();
        CHECK.due("no beats", none.many(0), 0);
        CHECK.due("of(0, 0)", none.of(0, 0), Edge.NOT_OF_BEAT);
        CHECK.due("buttons of the hand", none.many(4), 0);
        CHECK.due("drop()", none.drop(), Edge.NONE);
        CHECK.due("a beat is the first", none.beat(1, 1, 1, 1), 0);
        BassButtons eight = Edge.full();
        eight.keep();
        for (int i = 0; i < 8; i++) {
            eight.drop();
        }
        eight.back();
        CHECK.due("eight beats", eight.many(0), 8);
        CHECK.due("a ninth", eight.beat(1, 1, 1, 1), Edge.FULL);
        CHECK.due("use(7)", eight.use(7), 24);
    }

    private static void backToARoomBelowStart() {
        CHECK.sentence("Promise 23: They become what was kept: a ROOM below the START of now, a START above the ROOM of now");
        BassButtons small = new BassButtons();
        small.rule(1, 1);
        small.keep();
        small.rule(1, 400);
        small.rule(2, 400);
        CHECK.due("back() to less room", small.back(), 1);
        CHECK.due("start", small.rule(2, 1), 0);
        CHECK.due("room", small.rule(1, 1), 1);
        BassButtons large = new BassButtons();
        large.rule(1, 400);
        large.rule(2, 400);
        large.keep();
        large.rule(2, 0);
        large.rule(1, 1);
        CHECK.due("back() to more room", large.back(), 1);
        CHECK.due("room", large.rule(1, 400), 400);
        CHECK.due("start", large.rule(2, 0), 400);
    }

    private static void nothingIsKept() {
        CHECK.sentence("Promise 23: NONE: nothing is kept");
        CHECK.due("back() of a new object", new BassButtons().back(), Edge.NONE);
        BassButtons x = Edge.full();
        CHECK.due("back() of a full piece", x.back(), Edge.NONE);
        CHECK.due("back() again", x.back(), Edge.NONE);
        CHECK.due("beats stay", x.many(0), 8);
        x.keep();
        CHECK.due("back() behind keep()", x.back(), 1);
    }
}
