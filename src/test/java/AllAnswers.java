import java.util.ArrayList;
import java.util.List;

/**
 * What a desk answers to every question, so that two desks can be compared. Fewer than 250 calls: a
 * desk may be looked at twice within the 512 calls that the document allows.
 */
final class AllAnswers {
    private final List<String> calls = new ArrayList<>();
    private final List<Integer> answers = new ArrayList<>();

    AllAnswers(BassButtons x) {
        system(x);
        for (int beat = 0; beat < 8; beat++) {
            beat(x, beat);
        }
        for (int what = 0; what < 8; what++) {
            add("many(" + what + ")", x.many(what));
        }
        add("jumps()", x.jumps());
        add("changed(0, 63)", x.changed(0, 63));
        add("cost()", x.cost());
        add("wants()", x.wants());
        rules(x);
    }

    private void add(String call, int answer) {
        calls.add(call);
        answers.add(answer);
    }

    private void system(BassButtons x) {
        for (int row = 0; row < 6; row++) {
            add("sound(" + row + ")", x.sound(row));
            add("sound(" + (66 + row) + ")", x.sound(66 + row));
        }
        add("root(0)", x.root(0));
        add("root(11)", x.root(11));
    }

    private void beat(BassButtons x, int beat) {
        for (int what = 0; what < 4; what++) {
            add("of(" + beat + ", " + what + ")", x.of(beat, what));
            add("good(" + beat + ", " + what + ")", x.good(beat, what));
        }
        int last = x.good(beat, 3) - 1;
        for (int i = 0; i < 3; i++) {
            add("button(" + beat + ", 0, " + i + ")", x.button(beat, 0, i));
            add("button(" + beat + ", last, " + i + ")", x.button(beat, last, i));
        }
        add("hand(" + beat + ")", x.hand(beat));
        add("sounds(" + beat + ")", x.sounds(beat));
        add("use(" + beat + ")", x.use(beat));
        add("bellows(" + beat + ")", x.bellows(beat));
        add("air(" + beat + ")", x.air(beat));
    }

    /** Only rule() tells what it was, so it is put back at once; room at its most fits every start. */
    private void rules(BassButtons x) {
        int register = x.rule(0, 1);
        add("register", register);
        add("register again", x.rule(0, register));
        int room = x.rule(1, 400);
        add("room", room);
        add("room again", x.rule(1, room));
        int start = x.rule(2, 0);
        add("start", start);
        add("start again", x.rule(2, start));
    }

    /** Another desk must answer the same. */
    void due(Check check, String when, BassButtons x) {
        AllAnswers others = new AllAnswers(x);
        for (int i = 0; i < answers.size(); i++) {
            check.due(when + ": " + calls.get(i), others.answers.get(i), answers.get(i));
        }
    }
}
