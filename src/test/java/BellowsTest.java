/** Promises 16 to 21: use, bellows, air, cost, wants, many. */
public final class BellowsTest {
    private static final int C_MAJOR = 145;
    private static final int NONE = BassButtons.NONE;
    private static final int NUMBER = BassButtons.NUMBER;
    private static final int NO_MARK = 0;
    private static final int REST = 1;
    private static final int STRONG = 2;
    private static final int TIED = 3;
    private static final Check CHECK = new Check("BellowsTest");

    public static void main(String[] args) {
        useOfABeat();
        turnsByMark();
        outComesFirst();
        outAsLongAsItGoes();
        costComesAheadOfOut();
        markOfTheFirstBeatIsFree();
        airReachesTheEdges();
        noAirIsUsed();
        wantsTheLeastRoom();
        wantsNone();
        roomDoesNotChangeWants();
        questionsAreRefused();
        manyIsRefused();
        CHECK.end();
    }

    /** Beats of C major: 3 notes each. */
    private static BassButtons piece(int start, int room, int... lengthsAndMarks) {
        BassButtons x = new BassButtons();
        x.rule(1, room);
        x.rule(2, start);
        for (int i = 0; i + 1 < lengthsAndMarks.length; i += 2) {
            x.beat(C_MAJOR, -1, lengthsAndMarks[i], lengthsAndMarks[i + 1]);
        }
        return x;
    }

    private static void dueWay(BassButtons x, int cost, int turns, int... outs) {
        CHECK.due("cost()", x.cost(), cost);
        CHECK.due("many(5)", x.many(5), turns);
        for (int beat = 0; beat < outs.length; beat++) {
            CHECK.due("bellows(" + beat + ")", x.bellows(beat), outs[beat]);
        }
    }

    private static void dueAir(BassButtons x, int... airs) {
        for (int beat = 0; beat < airs.length; beat++) {
            CHECK.due("air(" + beat + ")", x.air(beat), airs[beat]);
        }
    }

    private static void useOfABeat() {
        BassButtons x = piece(0, 400, 8, NO_MARK, 1, NO_MARK);
        CHECK.due("use(0)", x.use(0), 24);
        CHECK.due("use(1)", x.use(1), 3);
        x.rule(0, 3);
        CHECK.due("use(0) of register 3", x.use(0), 72);
        x.alter(1, C_MAJOR, 2, 5, NO_MARK);
        CHECK.due("use(1) with another low note", x.use(1), 60);
        x.alter(1, C_MAJOR, 4, 5, NO_MARK);
        CHECK.due("a note counts once", x.use(1), 45);
        x.alter(1, 0, -1, 5, NO_MARK);
        CHECK.due("nothing sounds", x.use(1), 0);
        x.system(0, 0);
        CHECK.due("nothing is there", x.use(0), 0);
    }

    private static void turnsByMark() {
        BassButtons none = piece(0, 24, 8, NO_MARK, 8, NO_MARK);
        dueWay(none, 3, 1, 1, 0);
        dueAir(none, 24, 0);
        dueWay(piece(0, 24, 8, NO_MARK, 8, REST), 0, 1, 1, 0);
        dueWay(piece(0, 24, 8, NO_MARK, 8, STRONG), 1, 1, 1, 0);
        BassButtons tied = piece(0, 24, 8, NO_MARK, 8, TIED);
        dueWay(tied, NONE, 0, NONE, NONE);
        dueAir(tied, NONE, NONE);
    }

    private static void outComesFirst() {
        BassButtons x = piece(50, 100, 1, NO_MARK, 1, NO_MARK, 1, NO_MARK);
        dueWay(x, 0, 0, 1, 1, 1);
        dueAir(x, 53, 56, 59);
        x.rule(2, 100);
        dueWay(x, 0, 0, 0, 0, 0);
        dueAir(x, 97, 94, 91);
    }

    private static void outAsLongAsItGoes() {
        BassButtons x = piece(0, 10, 1, REST, 1, REST, 1, REST, 1, REST, 1, REST);
        dueWay(x, 0, 2, 1, 1, 1, 0, 1);
        dueAir(x, 3, 6, 9, 6, 9);
    }

    private static void costComesAheadOfOut() {
        // Out first would turn twice, at a strong beat and at one without mark.
        BassButtons x = piece(3, 9, 1, NO_MARK, 1, STRONG, 1, TIED, 1, NO_MARK);
        dueWay(x, 1, 1, 0, 1, 1, 1);
        x = piece(3, 8, 1, NO_MARK, 1, STRONG, 1, TIED, 1, NO_MARK);
        dueWay(x, 4, 2, 1, 0, 0, 1);
        x = piece(3, 8, 1, NO_MARK, 1, STRONG, 1, TIED, 1, TIED);
        dueWay(x, NONE, 0, NONE, NONE, NONE, NONE);
        x = piece(3, 9, 1, NO_MARK, 1, STRONG, 1, TIED);
        dueWay(x, 1, 1, 1, 0, 0);
        x = piece(3, 9, 1, NO_MARK, 1, STRONG, 1, NO_MARK);
        dueWay(x, 1, 1, 1, 0, 0);
        x = piece(3, 9, 1, NO_MARK, 1, NO_MARK, 1, STRONG);
        dueWay(x, 1, 1, 1, 1, 0);
        x = piece(3, 6, 1, NO_MARK, 1, STRONG, 1, NO_MARK, 1, REST);
        dueWay(x, 1, 2, 1, 0, 0, 1);
    }

    private static void markOfTheFirstBeatIsFree() {
        dueWay(piece(100, 100, 1, TIED), 0, 0, 0);
        dueWay(piece(0, 100, 1, TIED), 0, 0, 1);
        dueWay(piece(100, 100, 1, STRONG), 0, 0, 0);
    }

    private static void airReachesTheEdges() {
        dueAir(piece(0, 24, 8, NO_MARK), 24);
        dueWay(piece(0, 23, 8, NO_MARK), NONE, 0, NONE);
        dueAir(piece(24, 24, 8, NO_MARK), 0);
        dueWay(piece(23, 24, 8, NO_MARK), NONE, 0, NONE);
        CHECK.due("even no room helps from 0 to 23", piece(0, 23, 8, NO_MARK).wants(), 24);
    }

    private static void noAirIsUsed() {
        BassButtons x = new BassButtons();
        CHECK.due("cost of no beats", x.cost(), 0);
        x.beat(0, -1, 8, NO_MARK);
        x.beat(0, -1, 8, NO_MARK);
        x.rule(1, 1);
        x.rule(2, 1);
        dueWay(x, 0, 0, 1, 1);
        dueAir(x, 1, 1);
        CHECK.due("wants", x.wants(), 1);
        x.rule(2, 0);
        CHECK.due("a room is 1 at least", x.wants(), 1);
    }

    private static void wantsTheLeastRoom() {
        CHECK.due("one", piece(0, 100, 8, NO_MARK).wants(), 24);
        CHECK.due("there and back", piece(0, 100, 8, NO_MARK, 8, NO_MARK).wants(), 24);
        CHECK.due("tied", piece(0, 100, 8, NO_MARK, 8, TIED).wants(), 48);
        CHECK.due("from start on", piece(90, 100, 8, NO_MARK, 8, TIED).wants(), 90);
        CHECK.due("start in the way", piece(10, 100, 8, NO_MARK).wants(), 34);
        CHECK.due("no beats", piece(77, 100).wants(), 77);
    }

    private static void wantsNone() {
        BassButtons x = new BassButtons();
        x.rule(0, 3);
        x.rule(1, 400);
        for (int beat = 0; beat < 5; beat++) {
            x.beat(C_MAJOR, -1, 8, TIED);
        }
        CHECK.due("360", x.wants(), 360);
        x.beat(C_MAJOR, -1, 4, TIED);
        CHECK.due("396", x.wants(), 396);
        x.alter(5, 0, 0, 8, TIED);
        x.alter(4, C_MAJOR, 2, 7, TIED);
        // 4 times 72, 84 and 24.
        CHECK.due("396 again", x.wants(), 396);
        x.alter(5, C_MAJOR, -1, 8, TIED);
        CHECK.due("444 is too much", x.wants(), NONE);
        CHECK.due("no way", x.cost(), NONE);
        x.rule(2, 40);
        CHECK.due("nor from 40", x.wants(), NONE);
        x.alter(4, 0, -1, 8, TIED);
        CHECK.due("400 is not", x.wants(), 400);
        x.rule(2, 41);
        CHECK.due("401 is", x.wants(), NONE);
    }

    private static void roomDoesNotChangeWants() {
        BassButtons x = piece(0, 1, 8, NO_MARK, 8, TIED);
        CHECK.due("wants above the room", x.wants(), 48);
        CHECK.due("but there is no way", x.cost(), NONE);
        x.rule(1, x.wants());
        CHECK.due("with it there is", x.cost(), 0);
        x.rule(1, 47);
        CHECK.due("with one less there isn't", x.cost(), NONE);
    }

    private static void questionsAreRefused() {
        BassButtons way = piece(0, 100, 8, NO_MARK);
        BassButtons none = piece(0, 1, 8, NO_MARK);
        for (int beat : new int[] {-1, 1, 8, Integer.MIN_VALUE, Integer.MAX_VALUE}) {
            CHECK.due("use(" + beat + ")", way.use(beat), NUMBER);
            CHECK.due("bellows(" + beat + ")", way.bellows(beat), NUMBER);
            CHECK.due("air(" + beat + ")", way.air(beat), NUMBER);
            CHECK.due("NUMBER ahead of NONE: bellows(" + beat + ")", none.bellows(beat), NUMBER);
            CHECK.due("NUMBER ahead of NONE: air(" + beat + ")", none.air(beat), NUMBER);
        }
        CHECK.due("use without a way", none.use(0), 24);
    }

    private static void manyIsRefused() {
        BassButtons x = piece(0, 100, 8, NO_MARK);
        for (int what : new int[] {-1, 8, Integer.MIN_VALUE, Integer.MAX_VALUE}) {
            CHECK.due("many(" + what + ")", x.many(what), NUMBER);
        }
        CHECK.due("many(0)", x.many(0), 1);
    }
}
