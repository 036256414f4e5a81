/** The boundary cases that the sentences of promises 16 to 21 name, a test for each sentence. */
public final class BellowsEdgeTest {
    private static final Check CHECK = new Check("BellowsEdgeTest");

    public static void main(String[] args) {
        usePromise();
        bellowsPromise();
        airPromise();
        costPromise();
        wantsPromise();
        manyPromise();
        CHECK.end();
    }

    private static void usePromise() {
        useOfNothingAndOfMost();
        useRefusesABeat();
    }

    private static void bellowsPromise() {
        bellowsOutOrIn();
        bellowsRefusesABeat();
        bellowsWithoutAWay();
    }

    private static void airPromise() {
        airFromZeroToRoom();
        airRefusesABeat();
        airWithoutAWay();
    }

    private static void costPromise() {
        costOfNothingAndOfMost();
        costWithoutAWay();
    }

    private static void wantsPromise() {
        wantsFromStartOn();
        wantsOneAtLeast();
        wantsFourHundredAtMost();
        wantsWhateverTheRoom();
        wantsNoRoomThatHelps();
    }

    private static void manyPromise() {
        manyFromNoneToMost();
        manyLackAndExtra();
        manyTurns();
        manyRefusesAnotherWhat();
    }

    private static void useOfNothingAndOfMost() {
        CHECK.sentence("Promise 16: USE of a BEAT");
        BassButtons x = new BassButtons();
        x.beat(0, -1, 8, 0);
        CHECK.due("nothing sounds", x.use(0), 0);
        x.alter(0, 0, 5, 1, 0);
        CHECK.due("one note, length 1", x.use(0), 1);
        x.alter(0, Edge.notes(0, 4, 7, 2, 6, 9), 1, 8, 0);
        x.rule(0, 3);
        CHECK.due("seven notes, length 8, register 3", x.use(0), 168);
        x.rule(1, 1);
        CHECK.due("without a way", x.use(0), 168);
        x.system(0, 0);
        CHECK.due("no buttons", x.use(0), 0);
        CHECK.due("of the last of eight", Edge.full().use(7), 24);
    }

    private static void useRefusesABeat() {
        CHECK.sentence("Promise 16: NUMBER: there is none such");
        CHECK.due("use(0) of no beats", new BassButtons().use(0), Edge.NUMBER);
        CHECK.due("use(1) of one", Edge.chords(1).use(1), Edge.NUMBER);
        for (int beat : Edge.outside(0, 7)) {
            CHECK.due("use(" + beat + ")", Edge.full().use(beat), Edge.NUMBER);
        }
    }

    private static void bellowsOutOrIn() {
        CHECK.sentence("Promise 17: Whether THE BELLOWS go OUT (1) or IN (0) in a BEAT");
        Edge.dueWay(CHECK, Edge.bellows(0, 100, 1, 0), 0, 1);
        Edge.dueWay(CHECK, Edge.bellows(100, 100, 1, 0), 0, 0);
        int r = Edge.REST;
        BassButtons eight = Edge.bellows(0, 24, 8, r, 8, r, 8, r, 8, r, 8, r, 8, r, 8, r, 8, r);
        Edge.dueWay(CHECK, eight, 0, 1, 0, 1, 0, 1, 0, 1, 0);
        // Tied to a second beat the first can't go out; alone it can.
        BassButtons x = Edge.bellows(6, 11, 1, 0, 1, Edge.TIED);
        Edge.dueWay(CHECK, x, 0, 0, 0);
        x.drop();
        Edge.dueWay(CHECK, x, 0, 1);
    }

    private static void bellowsRefusesABeat() {
        CHECK.sentence("Promise 17: NUMBER: there is none such");
        CHECK.due("bellows(0) of no beats", new BassButtons().bellows(0), Edge.NUMBER);
        CHECK.due("bellows(1) of one", Edge.chords(1).bellows(1), Edge.NUMBER);
        BassButtons noWay = Edge.bellows(1, 3, 1, 0);
        CHECK.due("bellows(1) of one without a way", noWay.bellows(1), Edge.NUMBER);
        for (int beat : Edge.outside(0, 7)) {
            CHECK.due("bellows(" + beat + ")", Edge.full().bellows(beat), Edge.NUMBER);
            CHECK.due("bellows(" + beat + ") without a way", noWay.bellows(beat), Edge.NUMBER);
        }
    }

    private static void bellowsWithoutAWay() {
        CHECK.sentence("Promise 17: NONE: there is no way");
        BassButtons x = Edge.bellows(2, 4, 1, 0, 1, 0);
        CHECK.due("bellows(0)", x.bellows(0), Edge.NONE);
        CHECK.due("bellows(1)", x.bellows(1), Edge.NONE);
        // The first beat alone has a way, but the last has none.
        BassButtons last = Edge.bellows(0, 24, 8, 0, 8, Edge.TIED);
        CHECK.due("bellows(0), the last is in the way", last.bellows(0), Edge.NONE);
        CHECK.due("bellows(1), the last is in the way", last.bellows(1), Edge.NONE);
        last.rule(1, 48);
        CHECK.due("with more room", last.bellows(1), 1);
    }

    private static void airFromZeroToRoom() {
        CHECK.sentence("Promise 18: AIR behind a BEAT");
        Edge.dueAir(CHECK, Edge.bellows(0, 24, 8, 0, 8, 0), 24, 0);
        Edge.dueAir(CHECK, Edge.bellows(24, 24, 8, 0, 8, 0), 0, 24);
        Edge.dueAir(CHECK, Edge.bellows(400, 400, 8, 0), 376);
        int r = Edge.REST;
        Edge.dueAir(CHECK, Edge.bellows(0, 24, 8, r, 8, r, 8, r, 8, r, 8, r, 8, r, 8, r, 8, r), 24, 0, 24, 0, 24, 0, 24, 0);
        BassButtons silent = Edge.chords(0, 0);
        silent.rule(2, 100);
        Edge.dueAir(CHECK, silent, 100, 100);
    }

    private static void airRefusesABeat() {
        CHECK.sentence("Promise 18: NUMBER likewise");
        CHECK.due("air(0) of no beats", new BassButtons().air(0), Edge.NUMBER);
        CHECK.due("air(1) of one", Edge.chords(1).air(1), Edge.NUMBER);
        BassButtons noWay = Edge.bellows(1, 3, 1, 0);
        CHECK.due("air(1) of one without a way", noWay.air(1), Edge.NUMBER);
        for (int beat : Edge.outside(0, 7)) {
            CHECK.due("air(" + beat + ")", Edge.full().air(beat), Edge.NUMBER);
            CHECK.due("air(" + beat + ") without a way", noWay.air(beat), Edge.NUMBER);
        }
    }

    private static void airWithoutAWay() {
        CHECK.sentence("Promise 18: NONE likewise");
        BassButtons x = Edge.bellows(0, 24, 8, 0, 8, Edge.TIED);
        CHECK.due("air(0)", x.air(0), Edge.NONE);
        CHECK.due("air(1)", x.air(1), Edge.NONE);
        x.alter(1, Edge.C_MAJOR, -1, 8, 0);
        Edge.dueAir(CHECK, x, 24, 0);
    }

    private static void costOfNothingAndOfMost() {
        CHECK.sentence("Promise 19: What THE BELLOWS COST");
        CHECK.due("of no beats", new BassButtons().cost(), 0);
        CHECK.due("of one beat", Edge.bellows(0, 24, 8, 0).cost(), 0);
        int n = Edge.NO_MARK;
        BassButtons x = Edge.bellows(0, 24, 8, n, 8, n, 8, n, 8, n, 8, n, 8, n, 8, n, 8, n);
        for (int turns = 7; turns >= 0; turns--) {
            CHECK.due("of " + turns + " turns", x.cost(), 3 * turns);
            x.drop();
        }
        CHECK.due("of none again", x.cost(), 0);
        x.rule(2, 24);
        CHECK.due("of none, with no air left to take in", x.cost(), 0);
    }

    private static void costWithoutAWay() {
        CHECK.sentence("Promise 19: NONE: there is no way");
        CHECK.due("neither out nor in", Edge.bellows(2, 4, 1, 0).cost(), Edge.NONE);
        CHECK.due("just out", Edge.bellows(1, 4, 1, 0).cost(), 0);
        CHECK.due("just in", Edge.bellows(3, 5, 1, 0).cost(), 0);
        CHECK.due("a turn that can't be", Edge.bellows(0, 5, 1, 0, 1, Edge.TIED).cost(), Edge.NONE);
    }

    private static void wantsFromStartOn() {
        CHECK.sentence("Promise 20: The least ROOM (from START on)");
        CHECK.due("no beats", Edge.bellows(77, 100).wants(), 77);
        CHECK.due("in all through", Edge.bellows(50, 100, 1, 0).wants(), 50);
        CHECK.due("just enough air", Edge.bellows(3, 100, 1, 0).wants(), 3);
        CHECK.due("not enough air", Edge.bellows(2, 100, 1, 0).wants(), 5);
        CHECK.due("start as room", Edge.bellows(100, 100, 1, 0).wants(), 100);
        CHECK.due("in and out, where cost does not matter", Edge.bellows(3, 100, 1, 0, 1, 0, 1, 0).wants(), 3);
        CHECK.due("tied together", Edge.bellows(3, 100, 1, 0, 1, Edge.TIED, 1, Edge.TIED).wants(), 12);
    }

    private static void wantsOneAtLeast() {
        CHECK.sentence("Promise 20: The least ROOM: ROOM is 1 to 400");
        CHECK.due("no beats", new BassButtons().wants(), 1);
        CHECK.due("no air is used", Edge.chords(0, 0).wants(), 1);
        BassButtons one = new BassButtons();
        one.beat(0, 0, 1, 0);
        CHECK.due("one is used", one.wants(), 1);
        one.alter(0, 0, 0, 2, 0);
        CHECK.due("two are used", one.wants(), 2);
    }

    private static void wantsFourHundredAtMost() {
        CHECK.sentence("Promise 20: The least ROOM (400 at most) with which there is a way");
        // Five beats of 72 and a start of 40.
        BassButtons x = new BassButtons();
        x.rule(0, 3);
        for (int beat = 0; beat < 5; beat++) {
            x.beat(Edge.C_MAJOR, -1, 8, Edge.TIED);
        }
        x.rule(2, 39);
        CHECK.due("399", x.wants(), 399);
        x.rule(2, 40);
        CHECK.due("400", x.wants(), 400);
        x.rule(2, 41);
        CHECK.due("401", x.wants(), Edge.NONE);
        CHECK.due("start 400", Edge.bellows(400, 400, 8, 0).wants(), 400);
        CHECK.due("start 400, no beats", Edge.bellows(400, 400).wants(), 400);
    }

    private static void wantsWhateverTheRoom() {
        CHECK.sentence("Promise 20: The least ROOM with which there is a way: whatever ROOM is now");
        BassButtons x = Edge.bellows(0, 1, 8, 0, 8, Edge.TIED);
        CHECK.due("of room 1", x.wants(), 48);
        for (int room : new int[] {47, 48, 49, 400}) {
            x.rule(1, room);
            CHECK.due("of room " + room, x.wants(), 48);
            CHECK.due("a way in room " + room, x.cost(), room >= 48 ? 0 : Edge.NONE);
        }
    }

    private static void wantsNoRoomThatHelps() {
        CHECK.sentence("Promise 20: NONE: there is none");
        BassButtons x = new BassButtons();
        x.rule(0, 3);
        x.rule(1, 400);
        for (int beat = 0; beat < 3; beat++) {
            x.beat(Edge.notes(0, 4, 7, 2, 6, 9), 1, 8, Edge.TIED);
        }
        CHECK.due("three times 168", x.wants(), Edge.NONE);
        CHECK.due("no way at all", x.cost(), Edge.NONE);
        x.drop();
        CHECK.due("two times 168", x.wants(), 336);
    }

    private static void dueMany(BassButtons x, int... due) {
        for (int what = 0; what < 8; what++) {
            CHECK.due("many(" + what + ")", x.many(what), due[what]);
        }
    }

    private static void manyFromNoneToMost() {
        CHECK.sentence("Promise 21: 0 BEATS, 1 BUTTONS that are there, 4 BUTTONS of THE HAND, 6 BASE, 7 ROWS");
        BassButtons x = new BassButtons();
        dueMany(x, 0, 72, 0, 0, 0, 0, 0, 63);
        x.system(11, 0);
        dueMany(x, 0, 0, 0, 0, 0, 0, 11, 0);
        for (int row = 0; row < 6; row++) {
            x.system(0, 1 << row);
            CHECK.due("many(1) of row " + row, x.many(1), 12);
        }
        x.system(0, 63);
        for (int beat = 0; beat < 8; beat++) {
            x.beat(Edge.C_SEVENTH, 2, 1, 0);
            CHECK.due("many(0)", x.many(0), beat + 1);
            CHECK.due("many(4)", x.many(4), 3 * (beat + 1));
        }
    }

    private static void manyLackAndExtra() {
        CHECK.sentence("Promise 21: 2 what all GOOD SETTINGS LACK, by BEATS, 3 EXTRA likewise");
        BassButtons x = new BassButtons();
        for (int beat = 0; beat < 8; beat++) {
            x.beat(4095, 11, 1, 0);
        }
        CHECK.due("many(2)", x.many(2), 48);
        CHECK.due("many(3)", x.many(3), 0);
        x.system(0, 0);
        CHECK.due("many(2), the most there can be", x.many(2), 104);
        x.system(0, 63);
        x.alter(7, Edge.C, -1, 1, 0);
        CHECK.due("many(2) of seven beats", x.many(2), 42);
        CHECK.due("many(3): once for a beat of twelve settings", x.many(3), 2);
        x.alter(0, Edge.C, -1, 1, 0);
        CHECK.due("many(3) of two beats", x.many(3), 4);
        x.drop();
        CHECK.due("many(3) behind a drop", x.many(3), 2);
    }

    private static void manyTurns() {
        CHECK.sentence("Promise 21: 5 TURNS of THE BELLOWS (0 without a way)");
        int r = Edge.REST;
        BassButtons x = Edge.bellows(0, 24, 8, r, 8, r, 8, r, 8, r, 8, r, 8, r, 8, r, 8, r);
        CHECK.due("the most, though they cost nothing", x.many(5), 7);
        x.rule(1, 400);
        CHECK.due("none, with room", x.many(5), 0);
        x.rule(1, 23);
        CHECK.due("no way", x.many(5), 0);
        CHECK.due("cost()", x.cost(), Edge.NONE);
        CHECK.due("no beats", new BassButtons().many(5), 0);
    }

    private static void manyRefusesAnotherWhat() {
        CHECK.sentence("Promise 21: NUMBER: another what");
        for (int what : Edge.outside(0, 7)) {
            CHECK.due("many(" + what + ") of no beats", new BassButtons().many(what), Edge.NUMBER);
            CHECK.due("many(" + what + ")", Edge.full().many(what), Edge.NUMBER);
        }
    }
}
