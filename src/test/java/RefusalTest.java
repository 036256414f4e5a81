import java.util.ArrayList;
import java.util.List;
import java.util.function.ToIntFunction;

/**
 * The sentences on refused calls: each refusal of each promise is answered as named, and leaves a
 * desk, and what is kept of it, as they were. The constants too, and the 512th call.
 */
public final class RefusalTest {
    private static final Check CHECK = new Check("RefusalTest");

    private record Call(String name, int due, ToIntFunction<BassButtons> made) { }

    public static void main(String[] args) {
        constants();
        refusedCallsChangeNothing();
        firstRefusalIsAnswered();
        answersBelowZeroThatAreNoRefusals();
        lastOfFiveHundredAndTwelveCalls();
        CHECK.end();
    }

    private static void constants() {
        CHECK.sentence("The constants: NUMBER = -1, FULL = -2, NONE = -3");
        CHECK.due("NUMBER", BassButtons.NUMBER, -1);
        CHECK.due("FULL", BassButtons.FULL, -2);
        CHECK.due("NONE", BassButtons.NONE, -3);
    }

    /** Five beats with a way, everything unlike the first state, and another piece kept. */
    private static BassButtons richDesk() {
        BassButtons x = new BassButtons();
        x.system(3, 61);
        x.beat(Edge.C_SEVENTH, 4, 2, Edge.TIED);
        x.rule(1, 300);
        x.keep();
        x.system(5, 62);
        x.rule(0, 2);
        x.rule(1, 250);
        x.rule(2, 40);
        x.alter(0, Edge.C, 9, 8, Edge.STRONG);
        x.beat(Edge.C_MAJOR, -1, 3, Edge.NO_MARK);
        x.beat(0, -1, 4, Edge.REST);
        x.beat(4095, 11, 8, Edge.TIED);
        x.beat(Edge.F_MAJOR, 0, 1, Edge.STRONG);
        return x;
    }

    /** Eight beats without a way, and the same kept. */
    private static BassButtons fullDesk() {
        BassButtons x = Edge.full();
        x.rule(1, 5);
        x.rule(2, 5);
        x.keep();
        return x;
    }

    /** Those that every desk of some beats refuses, whatever it holds. */
    private static List<Call> refusals() {
        List<Call> calls = new ArrayList<>();
        for (int base : Edge.outside(0, 11)) {
            calls.add(new Call("system(" + base + ", 7)", Edge.NUMBER, x -> x.system(base, 7)));
            calls.add(new Call("changed(" + base + ", 7)", Edge.NUMBER, x -> x.changed(base, 7)));
            calls.add(new Call("root(" + base + ")", Edge.NUMBER, x -> x.root(base)));
        }
        for (int rows : Edge.outside(0, 63)) {
            calls.add(new Call("system(1, " + rows + ")", Edge.NUMBER, x -> x.system(1, rows)));
            calls.add(new Call("changed(1, " + rows + ")", Edge.NUMBER, x -> x.changed(1, rows)));
        }
        for (int button : Edge.outside(0, 71)) {
            calls.add(new Call("sound(" + button + ")", Edge.NUMBER, x -> x.sound(button)));
        }
        addRules(calls);
        for (int chord : Edge.outside(0, 4095)) {
            addBeat(calls, chord, 3, 3, 3);
        }
        for (int low : Edge.outside(-1, 11)) {
            addBeat(calls, 3, low, 3, 3);
        }
        for (int length : Edge.outside(1, 8)) {
            addBeat(calls, 3, 3, length, 3);
        }
        for (int mark : Edge.outside(0, 3)) {
            addBeat(calls, 3, 3, 3, mark);
        }
        for (int beat : Edge.outside(0, 7)) {
            addQuestions(calls, beat);
        }
        return calls;
    }

    private static void addRules(List<Call> calls) {
        for (int what : Edge.outside(0, 2)) {
            calls.add(new Call("rule(" + what + ", 1)", Edge.NUMBER, x -> x.rule(what, 1)));
        }
        for (int v : Edge.outside(1, 3)) {
            calls.add(new Call("rule(0, " + v + ")", Edge.NUMBER, x -> x.rule(0, v)));
        }
        for (int v : new int[] {-1, 0, 4, 401, Integer.MIN_VALUE, Integer.MAX_VALUE}) {
            calls.add(new Call("rule(1, " + v + ")", Edge.NUMBER, x -> x.rule(1, v)));
        }
        for (int v : new int[] {-1, 251, 401, Integer.MIN_VALUE, Integer.MAX_VALUE}) {
            calls.add(new Call("rule(2, " + v + ")", Edge.NUMBER, x -> x.rule(2, v)));
        }
    }

    private static void addBeat(List<Call> calls, int chord, int low, int length, int mark) {
        String told = chord + ", " + low + ", " + length + ", " + mark + ")";
        calls.add(new Call("beat(" + told, Edge.NUMBER, x -> x.beat(chord, low, length, mark)));
        calls.add(new Call("alter(0, " + told, Edge.NUMBER, x -> x.alter(0, chord, low, length, mark)));
    }

    private static void addQuestions(List<Call> calls, int beat) {
        calls.add(new Call("alter(" + beat + ", ..)", Edge.NUMBER, x -> x.alter(beat, 3, 3, 3, 3)));
        calls.add(new Call("of(" + beat + ", 0)", Edge.NOT_OF_BEAT, x -> x.of(beat, 0)));
        calls.add(new Call("good(" + beat + ", 0)", Edge.NUMBER, x -> x.good(beat, 0)));
        calls.add(new Call("button(" + beat + ", 0, 0)", Edge.NUMBER, x -> x.button(beat, 0, 0)));
        calls.add(new Call("hand(" + beat + ")", Edge.NUMBER, x -> x.hand(beat)));
        calls.add(new Call("sounds(" + beat + ")", Edge.NUMBER, x -> x.sounds(beat)));
        calls.add(new Call("use(" + beat + ")", Edge.NUMBER, x -> x.use(beat)));
        calls.add(new Call("bellows(" + beat + ")", Edge.NUMBER, x -> x.bellows(beat)));
        calls.add(new Call("air(" + beat + ")", Edge.NUMBER, x -> x.air(beat)));
        calls.add(new Call("many(" + beat + ")", Edge.NUMBER, x -> x.many(beat)));
    }

    private static void refusedCallsChangeNothing() {
        CHECK.sentence("A call that is refused changes nothing");
        for (Call call : refusals()) {
            dueUnchanged(call, richDesk(), richDesk());
            dueUnchanged(call, fullDesk(), fullDesk());
        }
        dueUnchanged(new Call("beat when full", Edge.FULL, x -> x.beat(3, 3, 3, 3)), fullDesk(), fullDesk());
        dueUnchanged(new Call("room below start", Edge.NUMBER, x -> x.rule(1, 39)), richDesk(), richDesk());
        dueUnchanged(new Call("alter behind the last", Edge.NUMBER, x -> x.alter(5, 3, 3, 3, 3)), richDesk(), richDesk());
        dueUnchanged(new Call("drop of none", Edge.NONE, BassButtons::drop), new BassButtons(), new BassButtons());
        dueUnchanged(new Call("back to nothing", Edge.NONE, BassButtons::back), Edge.full(), Edge.full());
        dueUnchanged(new Call("sound that isn't there", Edge.NONE, x -> x.sound(6)), richDesk(), richDesk());
        dueUnchanged(new Call("button that isn't there", Edge.NONE, x -> x.button(0, 20, 0)), richDesk(), richDesk());
        dueUnchanged(new Call("no way", Edge.NONE, x -> x.bellows(0)), fullDesk(), fullDesk());
        dueUnchanged(new Call("no air", Edge.NONE, x -> x.air(0)), fullDesk(), fullDesk());
        dueUnchanged(new Call("no cost", Edge.NONE, BassButtons::cost), fullDesk(), fullDesk());
    }

    /** The one desk is asked, the other is not; then both go back to what is kept. */
    private static void dueUnchanged(Call call, BassButtons asked, BassButtons other) {
        CHECK.due(call.name, call.made.applyAsInt(asked), call.due);
        new AllAnswers(other).due(CHECK, "behind " + call.name, asked);
        CHECK.due("back() behind " + call.name, asked.back(), other.back());
        new AllAnswers(other).due(CHECK, "behind " + call.name + " and back()", asked);
    }

    private static void firstRefusalIsAnswered() {
        CHECK.sentence("Of several refusals that a call names the first one named is answered");
        BassButtons full = fullDesk();
        CHECK.due("beat: NUMBER ahead of FULL, chord", full.beat(4096, 0, 1, 0), Edge.NUMBER);
        CHECK.due("beat: NUMBER ahead of FULL, low", full.beat(0, 12, 1, 0), Edge.NUMBER);
        CHECK.due("beat: NUMBER ahead of FULL, length", full.beat(0, 0, 0, 0), Edge.NUMBER);
        CHECK.due("beat: NUMBER ahead of FULL, mark", full.beat(0, 0, 1, 4), Edge.NUMBER);
        CHECK.due("beat: FULL alone", full.beat(0, 0, 1, 0), Edge.FULL);
        CHECK.due("button: NUMBER ahead of NONE", full.button(8, 20, 3), Edge.NUMBER);
        CHECK.due("button: NONE alone", full.button(7, 20, 3), Edge.NONE);
        CHECK.due("bellows: NUMBER ahead of NONE", full.bellows(8), Edge.NUMBER);
        CHECK.due("bellows: NONE alone", full.bellows(7), Edge.NONE);
        CHECK.due("air: NUMBER ahead of NONE", full.air(8), Edge.NUMBER);
        CHECK.due("air: NONE alone", full.air(7), Edge.NONE);
        full.system(0, 0);
        CHECK.due("sound: NUMBER ahead of NONE", full.sound(72), Edge.NUMBER);
        CHECK.due("sound: NONE alone", full.sound(71), Edge.NONE);
    }

    private static void answersBelowZeroThatAreNoRefusals() {
        CHECK.sentence("refused (answers below 0, where not told otherwise)");
        BassButtons x = Edge.chords(Edge.C_MAJOR);
        CHECK.due("a low note that is none", x.of(0, 1), -1);
        CHECK.due("a beat that is none", x.of(1, 1), -9);
        CHECK.due("a beat with it comes", x.beat(0, -1, 1, 0), 1);
        CHECK.due("many(0)", x.many(0), 2);
    }

    private static void lastOfFiveHundredAndTwelveCalls() {
        CHECK.sentence("An object is used for at most 512 calls after it has been made");
        BassButtons x = new BassButtons();
        for (int call = 1; call <= 512; call++) {
            int round = (call - 1) % 16;
            if (round < 8) {
                CHECK.due("call " + call, x.beat(Edge.C_MAJOR, round, 1, 0), round);
            } else {
                CHECK.due("call " + call, x.drop(), 15 - round);
            }
        }
        BassButtons kept = Edge.full();
        for (int call = 9; call <= 511; call++) {
            CHECK.due("call " + call, call % 2 == 1 ? kept.keep() : kept.back(), 1);
        }
        CHECK.due("call 512", kept.hand(7), Edge.full().hand(7));
    }
}
