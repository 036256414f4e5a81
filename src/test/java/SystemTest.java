/** Promises 1 to 5: a new object, system, sound, root, rule. */
public final class SystemTest {
    private static final int[] WRONG_ROWS = {-1, 64, Integer.MIN_VALUE, Integer.MAX_VALUE};
    private static final int[] WRONG_NOTES = {-1, 12, Integer.MIN_VALUE, Integer.MAX_VALUE};
    private static final Check CHECK = new Check("SystemTest");

    public static void main(String[] args) {
        newObject();
        systemIsTaken();
        systemIsRefused();
        soundByRow();
        soundGoesRound();
        soundIsRefused();
        rootsByFifths();
        ruleAnswersWhatWas();
        ruleIsRefused();
        roomAndStartKeepApart();
        CHECK.end();
    }

    private static void newObject() {
        BassButtons x = new BassButtons();
        CHECK.due("new: beats", x.many(0), 0);
        CHECK.due("new: buttons", x.many(1), 72);
        CHECK.due("new: base", x.many(6), 0);
        CHECK.due("new: rows", x.many(7), 63);
        CHECK.due("new: back()", x.back(), BassButtons.NONE);
        CHECK.due("new: register", x.rule(0, 1), 1);
        CHECK.due("new: room", x.rule(1, 100), 100);
        CHECK.due("new: start", x.rule(2, 0), 0);
        CHECK.due("new: jumps", x.jumps(), 0);
        CHECK.due("new: cost", x.cost(), 0);
        CHECK.due("new: wants", x.wants(), 1);
    }

    private static void systemIsTaken() {
        BassButtons x = new BassButtons();
        CHECK.due("system(11, 63)", x.system(11, 63), 1);
        CHECK.due("base 11", x.many(6), 11);
        CHECK.due("system(0, 0)", x.system(0, 0), 1);
        CHECK.due("rows 0", x.many(7), 0);
        CHECK.due("no buttons", x.many(1), 0);
        CHECK.due("system(7, 33)", x.system(7, 33), 1);
        CHECK.due("two rows", x.many(1), 24);
        CHECK.due("root(0)", x.root(0), 7);
    }

    private static void systemIsRefused() {
        BassButtons x = new BassButtons();
        x.system(3, 21);
        for (int base : WRONG_NOTES) {
            CHECK.due("system(" + base + ", 5)", x.system(base, 5), BassButtons.NUMBER);
        }
        for (int rows : WRONG_ROWS) {
            CHECK.due("system(5, " + rows + ")", x.system(5, rows), BassButtons.NUMBER);
        }
        CHECK.due("base stays", x.many(6), 3);
        CHECK.due("rows stay", x.many(7), 21);
        CHECK.due("sound stays", x.sound(0), 1 << 7);
    }

    private static void soundByRow() {
        BassButtons x = new BassButtons();
        int[] due = {1 << 4, 1, 1 | 1 << 4 | 1 << 7, 1 | 1 << 3 | 1 << 7, 1 | 1 << 4 | 1 << 10, 1 | 1 << 3 | 1 << 9};
        for (int row = 0; row < 6; row++) {
            CHECK.due("sound(" + row + ")", x.sound(row), due[row]);
        }
    }

    private static void soundGoesRound() {
        BassButtons x = new BassButtons();
        x.system(11, 63);
        CHECK.due("counter of 11", x.sound(0), 1 << 3);
        CHECK.due("bass of 11", x.sound(1), 1 << 11);
        CHECK.due("major of 11", x.sound(2), 1 << 11 | 1 << 3 | 1 << 6);
        CHECK.due("minor of 11", x.sound(3), 1 << 11 | 1 << 2 | 1 << 6);
        CHECK.due("seventh of 11", x.sound(4), 1 << 11 | 1 << 3 | 1 << 9);
        CHECK.due("diminished of 11", x.sound(5), 1 << 11 | 1 << 2 | 1 << 8);
        CHECK.due("bass of column 11", x.sound(67), 1 << 4);
        CHECK.due("diminished of column 11", x.sound(71), 1 << 4 | 1 << 7 | 1 << 1);
    }

    private static void soundIsRefused() {
        BassButtons x = new BassButtons();
        x.system(0, 63 - 4);
        CHECK.due("sound(2) isn't there", x.sound(2), BassButtons.NONE);
        CHECK.due("sound(68) isn't there", x.sound(68), BassButtons.NONE);
        CHECK.due("sound(3) is", x.sound(3), 137);
        for (int button : new int[] {-1, 72, Integer.MIN_VALUE, Integer.MAX_VALUE}) {
            CHECK.due("sound(" + button + ")", x.sound(button), BassButtons.NUMBER);
        }
        x.system(0, 0);
        CHECK.due("sound(72) in no rows", x.sound(72), BassButtons.NUMBER);
        CHECK.due("sound(71) in no rows", x.sound(71), BassButtons.NONE);
    }

    private static void rootsByFifths() {
        BassButtons x = new BassButtons();
        int[] due = {0, 7, 2, 9, 4, 11, 6, 1, 8, 3, 10, 5};
        for (int base = 0; base < 12; base++) {
            x.system(base, 0);
            for (int column = 0; column < 12; column++) {
                CHECK.due("root(" + column + ") of base " + base, x.root(column), (due[column] + base) % 12);
            }
        }
        for (int column : WRONG_NOTES) {
            CHECK.due("root(" + column + ")", x.root(column), BassButtons.NUMBER);
        }
    }

    private static void ruleAnswersWhatWas() {
        BassButtons x = new BassButtons();
        CHECK.due("rule(0, 3)", x.rule(0, 3), 1);
        CHECK.due("rule(0, 1)", x.rule(0, 1), 3);
        CHECK.due("rule(1, 400)", x.rule(1, 400), 100);
        CHECK.due("rule(2, 400)", x.rule(2, 400), 0);
        CHECK.due("rule(2, 0)", x.rule(2, 0), 400);
        CHECK.due("rule(1, 1)", x.rule(1, 1), 400);
        CHECK.due("rule(2, 1)", x.rule(2, 1), 0);
        CHECK.due("rule(1, 1) again", x.rule(1, 1), 1);
    }

    private static void ruleIsRefused() {
        BassButtons x = new BassButtons();
        for (int what : new int[] {-1, 3, Integer.MIN_VALUE, Integer.MAX_VALUE}) {
            CHECK.due("rule(" + what + ", 1)", x.rule(what, 1), BassButtons.NUMBER);
        }
        for (int v : new int[] {0, 4, -1, Integer.MIN_VALUE, Integer.MAX_VALUE}) {
            CHECK.due("rule(0, " + v + ")", x.rule(0, v), BassButtons.NUMBER);
        }
        for (int v : new int[] {0, 401, -1, Integer.MIN_VALUE, Integer.MAX_VALUE}) {
            CHECK.due("rule(1, " + v + ")", x.rule(1, v), BassButtons.NUMBER);
        }
        for (int v : new int[] {-1, 101, Integer.MIN_VALUE, Integer.MAX_VALUE}) {
            CHECK.due("rule(2, " + v + ")", x.rule(2, v), BassButtons.NUMBER);
        }
        CHECK.due("register stays", x.rule(0, 2), 1);
        CHECK.due("room stays", x.rule(1, 50), 100);
        CHECK.due("start stays", x.rule(2, 50), 0);
    }

    private static void roomAndStartKeepApart() {
        BassButtons x = new BassButtons();
        CHECK.due("start 40", x.rule(2, 40), 0);
        CHECK.due("room below start", x.rule(1, 39), BassButtons.NUMBER);
        CHECK.due("room as start", x.rule(1, 40), 100);
        CHECK.due("start above room", x.rule(2, 41), BassButtons.NUMBER);
        CHECK.due("start stays", x.rule(2, 3), 40);
    }
}
