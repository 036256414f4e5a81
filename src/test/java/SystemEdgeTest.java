/** The boundary cases that the sentences of promises 1 to 5 name, a test for each sentence. */
public final class SystemEdgeTest {
    private static final Check CHECK = new Check("SystemEdgeTest");

    public static void main(String[] args) {
        newObjectHasTheSystemAsAtFirst();
        newObjectHasNoBeats();
        newObjectHasNothingKept();
        newObjectIsOnItsOwn();
        systemTakesTheEdges();
        systemRefusesABase();
        systemRefusesRows();
        soundOfTheFirstAndLastButton();
        soundRefusesANumber();
        soundOfAButtonThatIsNotThere();
        rootOfTheFirstAndLastColumn();
        rootRefusesAColumn();
        ruleAnswersWhatItWas();
        ruleRefusesAnotherWhat();
        ruleRefusesARegister();
        ruleRefusesARoom();
        ruleRefusesARoomBelowStart();
        ruleRefusesAStart();
        CHECK.end();
    }

    private static void newObjectHasTheSystemAsAtFirst() {
        CHECK.sentence("Promise 1: THE SYSTEM as at first");
        BassButtons x = new BassButtons();
        CHECK.due("base", x.many(6), 0);
        CHECK.due("rows", x.many(7), 63);
        CHECK.due("buttons", x.many(1), 72);
        CHECK.due("sound(0)", x.sound(0), 16);
        CHECK.due("sound(71)", x.sound(71), Edge.notes(5, 8, 2));
        CHECK.due("register", x.rule(0, 2), 1);
        CHECK.due("room", x.rule(1, 99), 100);
        CHECK.due("start", x.rule(2, 1), 0);
    }

    private static void newObjectHasNoBeats() {
        CHECK.sentence("Promise 1: no BEATS");
        BassButtons x = new BassButtons();
        CHECK.due("many(0)", x.many(0), 0);
        CHECK.due("of(0, 0)", x.of(0, 0), Edge.NOT_OF_BEAT);
        CHECK.due("drop()", x.drop(), Edge.NONE);
        CHECK.due("jumps()", x.jumps(), 0);
        CHECK.due("cost()", x.cost(), 0);
        for (int what = 2; what <= 5; what++) {
            CHECK.due("many(" + what + ")", x.many(what), 0);
        }
        CHECK.due("the first beat", x.beat(1, 1, 1, 1), 0);
    }

    private static void newObjectHasNothingKept() {
        CHECK.sentence("Promise 1: nothing is kept");
        CHECK.due("back()", new BassButtons().back(), Edge.NONE);
    }

    private static void newObjectIsOnItsOwn() {
        CHECK.sentence("Promise 1: A new object: beside one that was changed");
        BassButtons other = Edge.full();
        other.system(5, 7);
        other.rule(0, 3);
        other.rule(1, 50);
        other.rule(2, 50);
        other.keep();
        newObjectHasTheSystemAsAtFirst();
        newObjectHasNoBeats();
        newObjectHasNothingKept();
        CHECK.sentence("Promise 1: A new object: the other one stays");
        new BassButtons().beat(1, 1, 1, 1);
        CHECK.due("base of the other", other.many(6), 5);
        CHECK.due("beats of the other", other.many(0), 8);
        CHECK.due("back() of the other", other.back(), 1);
    }

    private static void systemTakesTheEdges() {
        CHECK.sentence("Promise 2: THE SYSTEM has a BASE and ROWS: 1");
        for (int base : new int[] {0, 11}) {
            for (int rows : new int[] {0, 1, 32, 63}) {
                BassButtons x = new BassButtons();
                x.system(6, 21);
                CHECK.due("system(" + base + ", " + rows + ")", x.system(base, rows), 1);
                CHECK.due("many(6)", x.many(6), base);
                CHECK.due("many(7)", x.many(7), rows);
                CHECK.due("root(0)", x.root(0), base);
                CHECK.due("sound(0)", x.sound(0), rows % 2 == 0 ? Edge.NONE : 1 << (base + 4) % 12);
                CHECK.due("sound(1)", x.sound(1), rows == 63 ? 1 << base : Edge.NONE);
            }
        }
    }

    private static void systemRefusesABase() {
        CHECK.sentence("Promise 2: NUMBER: base isn't 0 to 11");
        BassButtons x = new BassButtons();
        x.system(6, 21);
        for (int base : Edge.outside(0, 11)) {
            CHECK.due("system(" + base + ", 0)", x.system(base, 0), Edge.NUMBER);
            CHECK.due("system(" + base + ", 63)", x.system(base, 63), Edge.NUMBER);
        }
        CHECK.due("base stays", x.many(6), 6);
        CHECK.due("rows stay", x.many(7), 21);
    }

    private static void systemRefusesRows() {
        CHECK.sentence("Promise 2: NUMBER: or rows not 0 to 63");
        BassButtons x = new BassButtons();
        x.system(6, 21);
        for (int rows : Edge.outside(0, 63)) {
            CHECK.due("system(0, " + rows + ")", x.system(0, rows), Edge.NUMBER);
            CHECK.due("system(11, " + rows + ")", x.system(11, rows), Edge.NUMBER);
            CHECK.due("system(12, " + rows + ")", x.system(12, rows), Edge.NUMBER);
        }
        CHECK.due("base stays", x.many(6), 6);
        CHECK.due("rows stay", x.many(7), 21);
    }

    private static void soundOfTheFirstAndLastButton() {
        CHECK.sentence("Promise 3: What a BUTTON sounds, as bits");
        BassButtons x = new BassButtons();
        CHECK.due("sound(0)", x.sound(0), Edge.notes(4));
        CHECK.due("sound(71)", x.sound(71), Edge.notes(5, 8, 2));
    }

    private static void soundRefusesANumber() {
        CHECK.sentence("Promise 3: NUMBER: there is no such number (0 to 71)");
        for (int rows : new int[] {0, 63}) {
            BassButtons x = new BassButtons();
            x.system(0, rows);
            for (int button : Edge.outside(0, 71)) {
                CHECK.due("sound(" + button + ") in rows " + rows, x.sound(button), Edge.NUMBER);
            }
        }
    }

    private static void soundOfAButtonThatIsNotThere() {
        CHECK.sentence("Promise 3: NONE: it isn't there");
        BassButtons x = new BassButtons();
        x.system(0, 30);
        CHECK.due("sound(0)", x.sound(0), Edge.NONE);
        CHECK.due("sound(1)", x.sound(1), 1);
        CHECK.due("sound(70)", x.sound(70), Edge.notes(5, 9, 3));
        CHECK.due("sound(71)", x.sound(71), Edge.NONE);
        x.system(0, 0);
        for (int button = 0; button < 72; button++) {
            CHECK.due("sound(" + button + ") in no rows", x.sound(button), Edge.NONE);
        }
    }

    private static void rootOfTheFirstAndLastColumn() {
        CHECK.sentence("Promise 4: The ROOT of a COLUMN");
        BassButtons x = new BassButtons();
        CHECK.due("root(0)", x.root(0), 0);
        CHECK.due("root(11)", x.root(11), 5);
        x.system(11, 0);
        CHECK.due("root(0) in no rows", x.root(0), 11);
        CHECK.due("root(11) in no rows", x.root(11), 4);
    }

    private static void rootRefusesAColumn() {
        CHECK.sentence("Promise 4: NUMBER: there is none such");
        for (int column : Edge.outside(0, 11)) {
            CHECK.due("root(" + column + ")", new BassButtons().root(column), Edge.NUMBER);
        }
    }

    private static void ruleAnswersWhatItWas() {
        CHECK.sentence("Promise 5: What = 0 THE REGISTER, 1 ROOM, 2 START is v: what it was");
        BassButtons x = new BassButtons();
        CHECK.due("rule(0, 3)", x.rule(0, 3), 1);
        CHECK.due("rule(0, 3) again", x.rule(0, 3), 3);
        CHECK.due("rule(0, 1)", x.rule(0, 1), 3);
        CHECK.due("rule(1, 400)", x.rule(1, 400), 100);
        CHECK.due("rule(2, 400)", x.rule(2, 400), 0);
        CHECK.due("rule(2, 0)", x.rule(2, 0), 400);
        CHECK.due("rule(1, 1)", x.rule(1, 1), 400);
        CHECK.due("rule(2, 1)", x.rule(2, 1), 0);
        CHECK.due("rule(2, 0) again", x.rule(2, 0), 1);
        CHECK.due("rule(1, 100)", x.rule(1, 100), 1);
    }

    private static void ruleRefusesAnotherWhat() {
        CHECK.sentence("Promise 5: NUMBER: another what");
        BassButtons x = new BassButtons();
        for (int what : Edge.outside(0, 2)) {
            for (int v : new int[] {0, 1, 3, 400}) {
                CHECK.due("rule(" + what + ", " + v + ")", x.rule(what, v), Edge.NUMBER);
            }
        }
        CHECK.due("register stays", x.rule(0, 1), 1);
        CHECK.due("room stays", x.rule(1, 100), 100);
        CHECK.due("start stays", x.rule(2, 0), 0);
    }

    private static void ruleRefusesARegister() {
        CHECK.sentence("Promise 5: NUMBER: v isn't as told: THE REGISTER (1 to 3)");
        BassButtons x = new BassButtons();
        x.rule(0, 2);
        for (int v : Edge.outside(1, 3)) {
            CHECK.due("rule(0, " + v + ")", x.rule(0, v), Edge.NUMBER);
        }
        CHECK.due("register stays", x.rule(0, 1), 2);
    }

    private static void ruleRefusesARoom() {
        CHECK.sentence("Promise 5: NUMBER: v isn't as told: ROOM is 1 to 400");
        BassButtons x = new BassButtons();
        for (int v : Edge.outside(1, 400)) {
            CHECK.due("rule(1, " + v + ")", x.rule(1, v), Edge.NUMBER);
        }
        CHECK.due("room stays", x.rule(1, 1), 100);
        CHECK.due("the least", x.rule(1, 400), 1);
        CHECK.due("the most", x.rule(1, 400), 400);
    }

    private static void ruleRefusesARoomBelowStart() {
        CHECK.sentence("Promise 5: (ROOM not below START)");
        BassButtons x = new BassButtons();
        x.rule(2, 40);
        CHECK.due("below start", x.rule(1, 39), Edge.NUMBER);
        CHECK.due("as start", x.rule(1, 40), 100);
        CHECK.due("above start", x.rule(1, 41), 40);
        x.rule(2, 1);
        CHECK.due("of start 1", x.rule(1, 1), 41);
        x.rule(2, 0);
        CHECK.due("0 is below 1, though not below start", x.rule(1, 0), Edge.NUMBER);
    }

    private static void ruleRefusesAStart() {
        CHECK.sentence("Promise 5: NUMBER: v isn't as told: START (0 to ROOM)");
        BassButtons x = new BassButtons();
        for (int room : new int[] {1, 100, 399, 400}) {
            x.rule(1, room);
            for (int v : Edge.outside(0, room)) {
                CHECK.due("rule(2, " + v + ") of room " + room, x.rule(2, v), Edge.NUMBER);
            }
            CHECK.due("rule(2, " + room + ")", x.rule(2, room), 0);
            CHECK.due("rule(2, 0)", x.rule(2, 0), room);
        }
    }
}
