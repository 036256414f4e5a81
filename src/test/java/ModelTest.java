import java.util.ArrayList;
import java.util.List;
import java.util.Random;
import java.util.TreeSet;

/** Long runs of calls, right and wrong ones, against SlowModel. The seeds are fixed: each run is the same. */
public final class ModelTest {
    private static final int RUNS = 60;
    private static final int CALLS = 60;
    private static final Check CHECK = new Check("ModelTest");
    private static final int[] CHORDS = {145, 137, 1041, 521, 1169, 2180, 0, 4095, 1, 3, 21, 2730};

    private final Random random;
    private final BassButtons x = new BassButtons();
    private final SlowModel model = new SlowModel();
    private final String name;

    private ModelTest(int seed) {
        random = new Random(seed);
        name = "run " + seed + ", call ";
    }

    public static void main(String[] args) {
        for (int seed = 0; seed < RUNS; seed++) {
            ModelTest run = new ModelTest(seed);
            for (int call = 0; call < CALLS && CHECK.wrong() < 20; call++) {
                run.change(run.name + call);
                if (call % 4 == 3) {
                    run.compare(run.name + call);
                }
            }
        }
        CHECK.end();
    }

    /** A number from least to most, now and then one beyond them. */
    private int about(int least, int most) {
        int at = random.nextInt(40);
        return at == 0 ? least - 1 : at == 1 ? most + 1 : least + random.nextInt(most - least + 1);
    }

    private int aChord() {
        return random.nextInt(3) == 0 ? about(0, 4095) : CHORDS[random.nextInt(CHORDS.length)];
    }

    private int someRows() {
        return random.nextInt(2) == 0 ? 63 : about(0, 63);
    }

    private void change(String at) {
        switch (random.nextInt(12)) {
            case 0 -> system(at, about(0, 11), someRows());
            case 1 -> rule(at, 0, about(1, 3));
            case 2 -> rule(at, about(1, 2), about(0, 400));
            case 3 -> rule(at, about(0, 2), about(0, 40));
            case 4 -> drop(at);
            case 5 -> alter(at, about(0, 7), new SlowModel.Beat(aChord(), about(-1, 11), about(1, 8), about(0, 3)));
            case 6 -> keepOrBack(at);
            default -> beat(at, new SlowModel.Beat(aChord(), about(-1, 11), about(1, 8), about(0, 3)));
        }
    }

    private static boolean isIn(int v, int least, int most) {
        return v >= least && v <= most;
    }

    private static boolean isBeat(SlowModel.Beat b) {
        return isIn(b.chord(), 0, 4095) && isIn(b.low(), -1, 11) && isIn(b.length(), 1, 8) && isIn(b.mark(), 0, 3);
    }

    private void put(SlowModel.State s, List<SlowModel.Beat> beats) {
        model.now = new SlowModel.State(s.base(), s.rows(), s.register(), s.room(), s.start(), beats);
    }

    private void system(String at, int base, int rows) {
        SlowModel.State s = model.now;
        boolean isFine = isIn(base, 0, 11) && isIn(rows, 0, 63);
        CHECK.due(at + ": system", x.system(base, rows), isFine ? 1 : -1);
        if (isFine) {
            model.now = new SlowModel.State(base, rows, s.register(), s.room(), s.start(), s.beats());
        }
    }

    private void rule(String at, int what, int v) {
        SlowModel.State s = model.now;
        int due = -1;
        if (what == 0 && isIn(v, 1, 3)) {
            due = s.register();
            model.now = new SlowModel.State(s.base(), s.rows(), v, s.room(), s.start(), s.beats());
        } else if (what == 1 && isIn(v, Math.max(1, s.start()), 400)) {
            due = s.room();
            model.now = new SlowModel.State(s.base(), s.rows(), s.register(), v, s.start(), s.beats());
        } else if (what == 2 && isIn(v, 0, s.room())) {
            due = s.start();
            model.now = new SlowModel.State(s.base(), s.rows(), s.register(), s.room(), v, s.beats());
        }
        CHECK.due(at + ": rule(" + what + ", " + v + ")", x.rule(what, v), due);
    }

    private void beat(String at, SlowModel.Beat b) {
        List<SlowModel.Beat> beats = new ArrayList<>(model.now.beats());
        int due = !isBeat(b) ? -1 : beats.size() == 8 ? -2 : beats.size();
        CHECK.due(at + ": beat", x.beat(b.chord(), b.low(), b.length(), b.mark()), due);
        if (due >= 0) {
            beats.add(b);
            put(model.now, beats);
        }
    }

    private void alter(String at, int number, SlowModel.Beat b) {
        List<SlowModel.Beat> beats = new ArrayList<>(model.now.beats());
        boolean isFine = isIn(number, 0, beats.size() - 1) && isBeat(b);
        CHECK.due(at + ": alter", x.alter(number, b.chord(), b.low(), b.length(), b.mark()), isFine ? 1 : -1);
        if (isFine) {
            beats.set(number, b);
            put(model.now, beats);
        }
    }

    private void drop(String at) {
        List<SlowModel.Beat> beats = new ArrayList<>(model.now.beats());
        CHECK.due(at + ": drop", x.drop(), beats.isEmpty() ? -3 : beats.size() - 1);
        if (!beats.isEmpty()) {
            beats.remove(beats.size() - 1);
            put(model.now, beats);
        }
    }

    private void keepOrBack(String at) {
        if (random.nextBoolean()) {
            CHECK.due(at + ": keep", x.keep(), 1);
            model.kept = model.now;
        } else {
            CHECK.due(at + ": back", x.back(), model.kept == null ? -3 : 1);
            model.now = model.kept == null ? model.now : model.kept;
        }
    }

    private static List<List<SlowModel.Setting>> goodsOf(SlowModel.State s) {
        List<List<SlowModel.Setting>> goods = new ArrayList<>();
        for (SlowModel.Beat beat : s.beats()) {
            goods.add(SlowModel.good(s, beat));
        }
        return goods;
    }

    private void compare(String at) {
        SlowModel.State s = model.now;
        List<List<SlowModel.Setting>> goods = goodsOf(s);
        compareGoods(at, goods);
        SlowModel.Path hand = SlowModel.hand(goods);
        long hands = goods.stream().mapToLong(List::size).reduce(1, (a, b) -> Math.min(1000000, a * b));
        if (hands < 2000) {
            SlowModel.Path all = SlowModel.handOfAll(goods, new SlowModel.Path(0, -1, List.of()));
            CHECK.due(at + ": the model's own two hands", all.equals(hand) ? 1 : 0, 1);
        }
        compareHand(at, goods, hand);
        compareBellows(at, usesOf(at, goods, hand));
        compareChanged(at, goods, hand);
        compareSystem(at);
    }

    private void compareGoods(String at, List<List<SlowModel.Setting>> goods) {
        int lack = 0;
        int extra = 0;
        for (int b = 0; b < goods.size(); b++) {
            List<SlowModel.Setting> ofBeat = goods.get(b);
            SlowModel.Setting first = ofBeat.get(0);
            lack += first.lack();
            extra += first.extra();
            CHECK.due(at + ": good(" + b + ", 0)", x.good(b, 0), first.lack());
            CHECK.due(at + ": good(" + b + ", 1)", x.good(b, 1), first.extra());
            CHECK.due(at + ": good(" + b + ", 2)", x.good(b, 2), first.buttons().size());
            CHECK.due(at + ": good(" + b + ", 3)", x.good(b, 3), ofBeat.size());
            for (int k = 0; k <= 20; k++) {
                for (int i = 0; i <= 3; i++) {
                    boolean is = k < ofBeat.size() && i < first.buttons().size();
                    int due = is ? ofBeat.get(k).buttons().get(i) : -3;
                    CHECK.due(at + ": button(" + b + ", " + k + ", " + i + ")", x.button(b, k, i), due);
                }
            }
        }
        CHECK.due(at + ": many(2)", x.many(2), lack);
        CHECK.due(at + ": many(3)", x.many(3), extra);
    }

    private void compareHand(String at, List<List<SlowModel.Setting>> goods, SlowModel.Path hand) {
        int buttons = 0;
        for (int b = 0; b < goods.size(); b++) {
            CHECK.due(at + ": hand(" + b + ")", x.hand(b), hand.choices().get(b));
            buttons += goods.get(b).get(hand.choices().get(b)).buttons().size();
        }
        CHECK.due(at + ": jumps()", x.jumps(), hand.jumps());
        CHECK.due(at + ": many(4)", x.many(4), buttons);
        CHECK.due(at + ": hand of none", x.hand(goods.size()), -1);
    }

    private int[] usesOf(String at, List<List<SlowModel.Setting>> goods, SlowModel.Path hand) {
        SlowModel.State s = model.now;
        int[] uses = new int[goods.size()];
        for (int b = 0; b < uses.length; b++) {
            TreeSet<Integer> notes = new TreeSet<>();
            for (int button : goods.get(b).get(hand.choices().get(b)).buttons()) {
                notes.addAll(SlowModel.notes(s, button));
            }
            uses[b] = s.beats().get(b).length() * s.register() * notes.size();
            CHECK.due(at + ": sounds(" + b + ")", x.sounds(b), SlowModel.bits(notes));
            CHECK.due(at + ": use(" + b + ")", x.use(b), uses[b]);
        }
        return uses;
    }

    private void compareBellows(String at, int[] uses) {
        SlowModel.State s = model.now;
        SlowModel.Way way = SlowModel.way(s, uses, s.room(), 0, s.start(), -1);
        for (int b = 0; b < uses.length; b++) {
            CHECK.due(at + ": bellows(" + b + ")", x.bellows(b), way == null ? -3 : way.outs().get(b));
            CHECK.due(at + ": air(" + b + ")", x.air(b), way == null ? -3 : way.airs().get(b));
        }
        CHECK.due(at + ": cost()", x.cost(), way == null ? -3 : way.cost());
        CHECK.due(at + ": many(5)", x.many(5), way == null ? 0 : way.turns());
        CHECK.due(at + ": wants()", x.wants(), SlowModel.wants(s, uses));
    }

    private void compareChanged(String at, List<List<SlowModel.Setting>> goods, SlowModel.Path hand) {
        SlowModel.State s = model.now;
        int base = random.nextBoolean() ? s.base() : random.nextInt(12);
        int rows = random.nextInt(64);
        List<List<SlowModel.Setting>> others =
            goodsOf(new SlowModel.State(base, rows, s.register(), s.room(), s.start(), s.beats()));
        SlowModel.Path otherHand = SlowModel.hand(others);
        int due = 0;
        for (int b = 0; b < goods.size(); b++) {
            List<Integer> mine = goods.get(b).get(hand.choices().get(b)).buttons();
            due += mine.equals(others.get(b).get(otherHand.choices().get(b)).buttons()) ? 0 : 1;
        }
        CHECK.due(at + ": changed(" + base + ", " + rows + ")", x.changed(base, rows), due);
    }

    private void compareSystem(String at) {
        SlowModel.State s = model.now;
        for (int button = 0; button < 72; button++) {
            int bits = SlowModel.bits(SlowModel.notes(s, button));
            CHECK.due(at + ": sound(" + button + ")", x.sound(button), bits == 0 ? -3 : bits);
        }
        for (int column = 0; column < 12; column++) {
            CHECK.due(at + ": root(" + column + ")", x.root(column), (s.base() + 7 * column) % 12);
        }
        CHECK.due(at + ": many(0)", x.many(0), s.beats().size());
        CHECK.due(at + ": many(1)", x.many(1), 12 * Integer.bitCount(s.rows()));
        CHECK.due(at + ": many(6)", x.many(6), s.base());
        CHECK.due(at + ": many(7)", x.many(7), s.rows());
        for (int b = 0; b < 8; b++) {
            SlowModel.Beat beat = b < s.beats().size() ? s.beats().get(b) : new SlowModel.Beat(-9, -9, -9, -9);
            CHECK.due(at + ": of(" + b + ", 0)", x.of(b, 0), beat.chord());
            CHECK.due(at + ": of(" + b + ", 1)", x.of(b, 1), beat.low());
            CHECK.due(at + ": of(" + b + ", 2)", x.of(b, 2), beat.length());
            CHECK.due(at + ": of(" + b + ", 3)", x.of(b, 3), beat.mark());
        }
    }
}
