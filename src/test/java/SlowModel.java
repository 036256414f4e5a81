import java.util.ArrayList;
import java.util.Arrays;
import java.util.List;
import java.util.TreeSet;

/**
 * The document's words, written down a second time without regard to speed and in another way than
 * the program: whole lists of settings, whole rows of choices, every room tried.
 */
final class SlowModel {
    private static final int[][] STEPS = {{4}, {0}, {0, 4, 7}, {0, 3, 7}, {0, 4, 10}, {0, 3, 9}};

    record Beat(int chord, int low, int length, int mark) { }

    record Setting(List<Integer> buttons, int lack, int extra) { }

    record State(int base, int rows, int register, int room, int start, List<Beat> beats) { }

    State now = new State(0, 63, 1, 100, 0, List.of());
    State kept = null;

    static TreeSet<Integer> notes(State s, int button) {
        TreeSet<Integer> notes = new TreeSet<>();
        if ((s.rows >> (button % 6)) % 2 == 1) {
            for (int step : STEPS[button % 6]) {
                notes.add((s.base + 7 * (button / 6) + step) % 12);
            }
        }
        return notes;
    }

    static int bits(TreeSet<Integer> notes) {
        return notes.stream().mapToInt(n -> 1 << n).sum();
    }

    private static Setting setting(State s, Beat beat, boolean hasLowButton, List<Integer> buttons) {
        TreeSet<Integer> sounded = new TreeSet<>();
        for (int button : buttons) {
            if (button % 6 >= 2) {
                sounded.addAll(notes(s, button));
            }
        }
        int lack = beat.low >= 0 && !hasLowButton ? 1 : 0;
        int extra = 0;
        for (int note = 0; note < 12; note++) {
            boolean wanted = (beat.chord >> note) % 2 == 1;
            lack += wanted && !sounded.contains(note) ? 1 : 0;
            extra += !wanted && sounded.contains(note) ? 1 : 0;
        }
        return new Setting(new ArrayList<>(new TreeSet<>(buttons)), lack, extra);
    }

    private static List<Setting> settings(State s, Beat beat) {
        List<List<Integer>> lows = new ArrayList<>();
        List<List<Integer>> chords = new ArrayList<>();
        chords.add(List.of());
        for (int b = 0; b < 72; b++) {
            TreeSet<Integer> sounded = notes(s, b);
            if (b % 6 < 2 && beat.low >= 0 && sounded.contains(beat.low)) {
                lows.add(List.of(b));
            }
            if (b % 6 >= 2 && !sounded.isEmpty()) {
                chords.add(List.of(b));
                for (int c = b + 1; c < 72; c++) {
                    if (c % 6 >= 2 && !notes(s, c).isEmpty()) {
                        chords.add(List.of(b, c));
                    }
                }
            }
        }
        boolean hasLow = !lows.isEmpty();
        if (!hasLow) {
            lows.add(List.of());
        }
        List<Setting> all = new ArrayList<>();
        for (List<Integer> chord : chords) {
            for (List<Integer> low : lows) {
                List<Integer> both = new ArrayList<>(low);
                both.addAll(chord);
                all.add(setting(s, beat, hasLow, both));
            }
        }
        return all;
    }

    static int compareLists(List<Integer> a, List<Integer> b) {
        for (int i = 0; i < Math.min(a.size(), b.size()); i++) {
            if (!a.get(i).equals(b.get(i))) {
                return Integer.compare(a.get(i), b.get(i));
            }
        }
        return Integer.compare(a.size(), b.size());
    }

    static List<Setting> good(State s, Beat beat) {
        List<Setting> all = settings(s, beat);
        int lack = all.stream().mapToInt(Setting::lack).min().getAsInt();
        all.removeIf(x -> x.lack != lack);
        int extra = all.stream().mapToInt(Setting::extra).min().getAsInt();
        all.removeIf(x -> x.extra != extra);
        int size = all.stream().mapToInt(x -> x.buttons.size()).min().getAsInt();
        all.removeIf(x -> x.buttons.size() != size);
        all.sort((a, b) -> compareLists(a.buttons, b.buttons));
        return all.subList(0, Math.min(20, all.size()));
    }

    /** A way through some first beats: the jumps so far, the latest place (-1: none), the choices. */
    record Path(int jumps, int place, List<Integer> choices) {
        Path with(int k, Setting setting) {
            List<Integer> more = new ArrayList<>(choices);
            more.add(k);
            if (setting.buttons.isEmpty()) {
                return new Path(jumps, place, more);
            }
            int next = setting.buttons.stream().mapToInt(b -> b / 6).min().getAsInt();
            return new Path(jumps + (place < 0 ? 0 : Math.abs(next - place)), next, more);
        }

        boolean isBetterThan(Path other) {
            return jumps != other.jumps ? jumps < other.jumps : compareLists(choices, other.choices) < 0;
        }
    }

    /** Of all paths that end at one place only the best can be the beginning of the hand. */
    static Path hand(List<List<Setting>> goods) {
        List<Path> paths = List.of(new Path(0, -1, List.of()));
        for (List<Setting> ofBeat : goods) {
            Path[] best = new Path[13];
            for (Path path : paths) {
                for (int k = 0; k < ofBeat.size(); k++) {
                    Path longer = path.with(k, ofBeat.get(k));
                    int at = longer.place + 1;
                    if (best[at] == null || longer.isBetterThan(best[at])) {
                        best[at] = longer;
                    }
                }
            }
            paths = Arrays.stream(best).filter(p -> p != null).toList();
        }
        return paths.stream().reduce((a, b) -> b.isBetterThan(a) ? b : a).get();
    }

    /** All hands, one by one; only for few of them. */
    static Path handOfAll(List<List<Setting>> goods, Path path) {
        int beat = path.choices.size();
        if (beat == goods.size()) {
            return path;
        }
        Path best = null;
        for (int k = 0; k < goods.get(beat).size(); k++) {
            Path whole = handOfAll(goods, path.with(k, goods.get(beat).get(k)));
            if (best == null || whole.isBetterThan(best)) {
                best = whole;
            }
        }
        return best;
    }

    record Way(int cost, int turns, List<Integer> outs, List<Integer> airs) { }

    /** The best way on from a beat, out tried first. */
    static Way way(State s, int[] uses, int room, int beat, int air, int ahead) {
        if (beat == uses.length) {
            return new Way(0, 0, List.of(), List.of());
        }
        Way best = null;
        for (int out = 1; out >= 0; out--) {
            int next = out == 1 ? air + uses[beat] : air - uses[beat];
            int mark = s.beats.get(beat).mark;
            boolean turns = beat > 0 && out != ahead;
            if (next < 0 || next > room || (turns && mark == 3)) {
                continue;
            }
            Way rest = way(s, uses, room, beat + 1, next, out);
            int here = !turns ? 0 : mark == 1 ? 0 : mark == 2 ? 1 : 3;
            if (rest != null && (best == null || rest.cost + here < best.cost)) {
                List<Integer> outs = new ArrayList<>(List.of(out));
                outs.addAll(rest.outs);
                List<Integer> airs = new ArrayList<>(List.of(next));
                airs.addAll(rest.airs);
                best = new Way(rest.cost + here, rest.turns + (turns ? 1 : 0), outs, airs);
            }
        }
        return best;
    }

    static int wants(State s, int[] uses) {
        for (int room = Math.max(1, s.start); room <= 400; room++) {
            if (way(s, uses, room, 0, s.start, -1) != null) {
                return room;
            }
        }
        return -3;
    }
}
