/** Promises 6 to 9: beat, alter, drop, of; and 22 and 23: keep, back. */
public final class PieceTest {
    private static final Check CHECK = new Check("PieceTest");
    private static final int[][] WRONG_BEATS = {
        {-1, 0, 1, 0}, {4096, 0, 1, 0}, {Integer.MIN_VALUE, 0, 1, 0}, {Integer.MAX_VALUE, 0, 1, 0},
        {0, -2, 1, 0}, {0, 12, 1, 0}, {0, Integer.MIN_VALUE, 1, 0}, {0, Integer.MAX_VALUE, 1, 0},
        {0, 0, 0, 0}, {0, 0, 9, 0}, {0, 0, -1, 0}, {0, 0, Integer.MIN_VALUE, 0}, {0, 0, Integer.MAX_VALUE, 0},
        {0, 0, 1, -1}, {0, 0, 1, 4}, {0, 0, 1, Integer.MIN_VALUE}, {0, 0, 1, Integer.MAX_VALUE},
    };
    private static final int[] WRONG_NUMBERS = {-1, 8, Integer.MIN_VALUE, Integer.MAX_VALUE};

    public static void main(String[] args) {
        beatsAreNumbered();
        beatIsRefused();
        beatIsFull();
        alterTakesTheNew();
        alterIsRefused();
        dropTakesTheLatest();
        ofIsRefused();
        keepAndBack();
        backStays();
        refusalsChangeNothing();
        CHECK.end();
    }

    private static void dueBeat(BassButtons x, int beat, int... due) {
        for (int what = 0; what < 4; what++) {
            CHECK.due("of(" + beat + ", " + what + ")", x.of(beat, what), due[what]);
        }
    }

    private static void beatsAreNumbered() {
        BassButtons x = new BassButtons();
        CHECK.due("first", x.beat(0, -1, 1, 0), 0);
        CHECK.due("second", x.beat(4095, 11, 8, 3), 1);
        CHECK.due("third", x.beat(145, 7, 4, 2), 2);
        dueBeat(x, 0, 0, -1, 1, 0);
        dueBeat(x, 1, 4095, 11, 8, 3);
        dueBeat(x, 2, 145, 7, 4, 2);
        CHECK.due("many(0)", x.many(0), 3);
    }

    private static void beatIsRefused() {
        BassButtons x = new BassButtons();
        for (int[] w : WRONG_BEATS) {
            CHECK.due("beat of wrong numbers", x.beat(w[0], w[1], w[2], w[3]), BassButtons.NUMBER);
        }
        CHECK.due("none came", x.many(0), 0);
    }

    private static void beatIsFull() {
        BassButtons x = new BassButtons();
        for (int i = 0; i < 8; i++) {
            CHECK.due("beat " + i, x.beat(i, i, i + 1, i % 4), i);
        }
        CHECK.due("ninth", x.beat(1, 1, 1, 1), BassButtons.FULL);
        for (int[] w : WRONG_BEATS) {
            CHECK.due("NUMBER is named ahead of FULL", x.beat(w[0], w[1], w[2], w[3]), BassButtons.NUMBER);
        }
        CHECK.due("still eight", x.many(0), 8);
        dueBeat(x, 7, 7, 7, 8, 3);
        x.drop();
        CHECK.due("room again", x.beat(5, 5, 5, 2), 7);
        dueBeat(x, 7, 5, 5, 5, 2);
    }

    private static void alterTakesTheNew() {
        BassButtons x = new BassButtons();
        x.beat(145, 0, 1, 0);
        x.beat(137, 0, 1, 0);
        CHECK.due("alter(0)", x.alter(0, 0, -1, 8, 3), 1);
        dueBeat(x, 0, 0, -1, 8, 3);
        dueBeat(x, 1, 137, 0, 1, 0);
        CHECK.due("settings follow", x.good(0, 2), 0);
        CHECK.due("use follows", x.use(0), 0);
        CHECK.due("alter when full isn't FULL", fullPiece().alter(7, 1, 1, 1, 1), 1);
    }

    private static BassButtons fullPiece() {
        BassButtons x = new BassButtons();
        for (int i = 0; i < 8; i++) {
            x.beat(145, 0, 1, 0);
        }
        return x;
    }

    private static void alterIsRefused() {
        BassButtons x = new BassButtons();
        CHECK.due("alter of none", x.alter(0, 1, 1, 1, 1), BassButtons.NUMBER);
        x.beat(145, 0, 2, 1);
        for (int beat : WRONG_NUMBERS) {
            CHECK.due("alter(" + beat + ")", x.alter(beat, 1, 1, 1, 1), BassButtons.NUMBER);
        }
        CHECK.due("alter(1)", x.alter(1, 1, 1, 1, 1), BassButtons.NUMBER);
        for (int[] w : WRONG_BEATS) {
            CHECK.due("alter to wrong numbers", x.alter(0, w[0], w[1], w[2], w[3]), BassButtons.NUMBER);
        }
        dueBeat(x, 0, 145, 0, 2, 1);
        CHECK.due("settings stay", x.button(0, 0, 0), 1);
    }

    private static void dropTakesTheLatest() {
        BassButtons x = new BassButtons();
        CHECK.due("drop of none", x.drop(), BassButtons.NONE);
        x.beat(145, 0, 1, 0);
        x.beat(137, 3, 2, 1);
        CHECK.due("drop", x.drop(), 1);
        dueBeat(x, 0, 145, 0, 1, 0);
        CHECK.due("latest is no more", x.of(1, 0), -9);
        CHECK.due("drop again", x.drop(), 0);
        CHECK.due("drop once more", x.drop(), BassButtons.NONE);
        CHECK.due("hand forgets", x.many(4), 0);
        CHECK.due("numbers begin anew", x.beat(1, 1, 1, 1), 0);
    }

    private static void ofIsRefused() {
        BassButtons x = new BassButtons();
        CHECK.due("of(0, 0) of none", x.of(0, 0), -9);
        x.beat(145, -1, 1, 0);
        CHECK.due("no low note is -1", x.of(0, 1), -1);
        CHECK.due("of(1, 0)", x.of(1, 0), -9);
        for (int beat : WRONG_NUMBERS) {
            CHECK.due("of(" + beat + ", 0)", x.of(beat, 0), -9);
        }
        for (int what : new int[] {-1, 4, Integer.MIN_VALUE, Integer.MAX_VALUE}) {
            CHECK.due("of(0, " + what + ")", x.of(0, what), -9);
        }
    }

    private static void keepAndBack() {
        BassButtons x = new BassButtons();
        CHECK.due("nothing kept", x.back(), BassButtons.NONE);
        x.system(5, 62);
        x.rule(0, 2);
        x.rule(1, 300);
        x.rule(2, 200);
        x.beat(145, 0, 3, 1);
        x.beat(2180, 7, 2, 2);
        int[] seen = lookOver(x);
        CHECK.due("keep", x.keep(), 1);
        x.system(1, 7);
        x.rule(0, 3);
        x.rule(2, 10);
        x.rule(1, 20);
        x.alter(0, 1, 1, 1, 1);
        x.alter(1, 2, 2, 2, 3);
        x.beat(3, 3, 3, 3);
        CHECK.due("back", x.back(), 1);
        int[] again = lookOver(x);
        for (int i = 0; i < seen.length; i++) {
            CHECK.due("behind back(), look " + i, again[i], seen[i]);
        }
        CHECK.due("register is back", x.rule(0, 1), 2);
        CHECK.due("start is back", x.rule(2, 0), 200);
        CHECK.due("room is back", x.rule(1, 1), 300);
    }

    private static int[] lookOver(BassButtons x) {
        return new int[] {
            x.many(0), x.many(1), x.many(2), x.many(3), x.many(4), x.many(5), x.many(6), x.many(7),
            x.of(0, 0), x.of(0, 1), x.of(0, 2), x.of(0, 3), x.of(1, 0), x.of(1, 1), x.of(1, 2), x.of(1, 3),
            x.of(2, 0), x.good(0, 0), x.good(1, 3), x.button(0, 0, 0), x.button(1, 0, 1), x.hand(1), x.jumps(),
            x.sounds(0), x.sounds(1), x.use(0), x.use(1), x.bellows(1), x.air(1), x.cost(), x.wants(), x.sound(9),
        };
    }

    private static void backStays() {
        BassButtons x = new BassButtons();
        x.keep();
        x.beat(145, 0, 1, 0);
        x.keep();
        x.beat(137, 0, 1, 0);
        CHECK.due("back to the latest", x.back(), 1);
        CHECK.due("one beat", x.many(0), 1);
        x.alter(0, 7, 7, 7, 2);
        x.drop();
        CHECK.due("back again", x.back(), 1);
        dueBeat(x, 0, 145, 0, 1, 0);
        x.system(4, 12);
        CHECK.due("and again", x.back(), 1);
        CHECK.due("base", x.many(6), 0);
    }

    private static void refusalsChangeNothing() {
        BassButtons x = fullPiece();
        x.rule(2, 50);
        int[] seen = lookOver(x);
        x.system(12, 3);
        x.rule(1, 49);
        x.beat(1, 1, 1, 1);
        x.alter(8, 1, 1, 1, 1);
        x.changed(3, 64);
        x.changed(3, 9);
        x.back();
        int[] again = lookOver(x);
        for (int i = 0; i < seen.length; i++) {
            CHECK.due("behind refusals, look " + i, again[i], seen[i]);
        }
    }
}
