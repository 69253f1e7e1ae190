import java.util.ArrayList;
import java.util.Comparator;
import java.util.HashSet;
import java.util.List;
import java.util.Set;

/**
 * A second writing of the document for TwinTest, sentence by sentence: it keeps nothing
 * but what was given and works out each answer anew.
 */
final class Twin {
    static final int NONE = -1000, UNKNOWN = -1001, OUTSIDE = -1002, FULL = -1003;

    record Note(int staff, int voice, int tick, int letter, int octave, int sign, int head) { }

    record Shift(int staff, int from, int to, int octaves) { }

    private final List<Note> notes = new ArrayList<>();
    private final List<Shift> shifts = new ArrayList<>();
    private final int[] kind = {0, 0, 0, 0};
    private final int[] line = {2, 2, 2, 2};
    private final int[] settings = {2, 6};
    private final int unit;
    private boolean hiding;

    Twin(int unit) {
        this.unit = unit < 1 || unit > 65536 ? 10 : unit;
    }

    private static boolean in(int from, int value, int to) {
        return from <= value && value <= to;
    }

    private boolean named(int note) {
        return in(0, note, notes.size() - 1);
    }

    int clef(int staff, int k, int l) {
        if (!in(0, staff, 3)) {
            return UNKNOWN;
        }
        if (!in(0, k, 2) || !in(1, l, 5)) {
            return OUTSIDE;
        }
        kind[staff] = k;
        line[staff] = l;
        return 1;
    }

    int shift(int staff, int from, int to, int octaves) {
        if (!in(0, staff, 3)) {
            return UNKNOWN;
        }
        if (!in(0, from, 99) || !in(0, to, 99) || from > to || !in(-2, octaves, 2)) {
            return OUTSIDE;
        }
        if (shifts.size() == 12) {
            return FULL;
        }
        shifts.add(new Shift(staff, from, to, octaves));
        return shifts.size();
    }

    int plain() {
        int were = shifts.size();
        shifts.clear();
        return were;
    }

    int note(int staff, int voice, int tick, int letter, int octave, int sign, int head) {
        if (!in(0, staff, 3)) {
            return UNKNOWN;
        }
        if (!in(0, voice, 2) || !in(0, tick, 99) || !in(0, letter, 6) || !in(0, octave, 9)
                || !in(-2, sign, 3) || !in(0, head, 2)) {
            return OUTSIDE;
        }
        if (notes.size() == 60) {
            return FULL;
        }
        notes.add(new Note(staff, voice, tick, letter, octave, sign, head));
        return notes.size() - 1;
    }

    int drop(int note) {
        if (!named(note)) {
            return UNKNOWN;
        }
        notes.remove(note);
        return notes.size();
    }

    private int step(int i) {
        Note n = notes.get(i);
        int clefLetter = new int[] {4, 0, 3}[kind[n.staff]];
        int clefOctave = new int[] {4, 4, 3}[kind[n.staff]];
        int step = 7 * n.octave + n.letter - (7 * clefOctave + clefLetter) + 2 * line[n.staff] - 2;
        for (Shift s : shifts) {
            if (s.staff == n.staff && in(s.from, n.tick, s.to)) {
                step -= 7 * s.octaves;
            }
        }
        return step;
    }

    private List<Integer> there(int staff, int tick) {
        List<Integer> found = new ArrayList<>();
        for (int i = 0; i < notes.size(); i++) {
            if (notes.get(i).staff == staff && notes.get(i).tick == tick) {
                found.add(i);
            }
        }
        return found;
    }

    private List<Integer> chord(int staff, int voice, int tick) {
        List<Integer> found = there(staff, tick);
        found.removeIf(i -> notes.get(i).voice != voice);
        return found;
    }

    private List<Integer> chordOf(int i) {
        return chord(notes.get(i).staff, notes.get(i).voice, notes.get(i).tick);
    }

    private int highest(List<Integer> some) {
        return some.stream().mapToInt(this::step).max().getAsInt();
    }

    private int lowest(List<Integer> some) {
        return some.stream().mapToInt(this::step).min().getAsInt();
    }

    private boolean up(int i) {
        Note n = notes.get(i);
        boolean others = false;
        boolean least = true;
        for (int j : there(n.staff, n.tick)) {
            others |= notes.get(j).voice != n.voice;
            least &= notes.get(j).voice >= n.voice;
        }
        List<Integer> own = chordOf(i);
        return others ? least : highest(own) - 4 < 4 - lowest(own);
    }

    private int aside(int i) {
        List<Integer> own = chordOf(i);
        boolean up = up(i);
        own.sort(Comparator.<Integer>comparingInt(j -> up ? step(j) : -step(j)).thenComparingInt(j -> j));
        Set<Integer> turned = new HashSet<>();
        for (int k = 1; k < own.size(); k++) {
            int before = own.get(k - 1);
            if (Math.abs(step(before) - step(own.get(k))) <= 1 && !turned.contains(before)) {
                turned.add(own.get(k));
            }
        }
        return turned.contains(i) ? (up ? 1 : -1) : 0;
    }

    private boolean sharedHeads(int a, int b) {
        Note m = notes.get(a);
        Note n = notes.get(b);
        return m.staff == n.staff && m.tick == n.tick
                && step(a) == step(b) && m.head == n.head && m.sign == n.sign && up(a) != up(b);
    }

    private int movedBy(int staff, int voice, int tick) {
        List<Integer> own = chord(staff, voice, tick);
        for (int by = 0; ; by++) {
            boolean free = true;
            for (int lesser = 0; lesser < voice; lesser++) {
                List<Integer> others = chord(staff, lesser, tick);
                int otherBy = others.isEmpty() ? 0 : movedBy(staff, lesser, tick);
                for (int a : own) {
                    for (int b : others) {
                        free &= by + aside(a) != otherBy + aside(b)
                                || Math.abs(step(a) - step(b)) > 1 || sharedHeads(a, b);
                    }
                }
            }
            if (free) {
                return by;
            }
        }
    }

    private int movedBy(int i) {
        return movedBy(notes.get(i).staff, notes.get(i).voice, notes.get(i).tick);
    }

    /** COLUMNS by numbers of NOTES; 0 for those that have none. */
    private int[] signs(int staff, int tick) {
        int[] column = new int[60];
        List<Integer> left = there(staff, tick);
        left.removeIf(i -> notes.get(i).sign == 3);
        left.sort(Comparator.<Integer>comparingInt(this::step).thenComparingInt(i -> -i));
        List<Integer> placed = new ArrayList<>();
        boolean fromAbove = true;
        while (!left.isEmpty()) {
            int next = fromAbove ? left.get(left.size() - 1) : firstOfLowest(left);
            left.remove(Integer.valueOf(next));
            int c = 1;
            while (stands(placed, column, c, next)) {
                c++;
            }
            for (int other : placed) {
                if (step(other) == step(next) && notes.get(other).sign == notes.get(next).sign) {
                    c = column[other];
                }
            }
            column[next] = c;
            placed.add(next);
            fromAbove = !fromAbove;
        }
        return column;
    }

    private int firstOfLowest(List<Integer> left) {
        int best = left.get(0);
        for (int i : left) {
            if (step(i) == step(best) && i < best) {
                best = i;
            }
        }
        return best;
    }

    private boolean stands(List<Integer> placed, int[] column, int c, int next) {
        return placed.stream().anyMatch(p -> column[p] == c && Math.abs(step(p) - step(next)) < 6);
    }

    int of(int i, int what) {
        if (!named(i)) {
            return UNKNOWN;
        }
        int step = step(i);
        return switch (what) {
            case 0 -> step;
            case 1 -> step < 0 ? Math.abs(step) / 2 : 0;
            case 2 -> step > 8 ? (step - 8) / 2 : 0;
            case 3 -> up(i) ? 1 : 0;
            case 4 -> aside(i);
            case 5 -> movedBy(i) + aside(i);
            case 6 -> signs(notes.get(i).staff, notes.get(i).tick)[i];
            case 7 -> movedBy(i);
            case 8 -> chordOf(i).size();
            default -> OUTSIDE;
        };
    }

    long height(int i) {
        return named(i) ? (long) unit * step(i) - place(notes.get(i).staff) : UNKNOWN;
    }

    private boolean onlyWhole(List<Integer> some) {
        return some.stream().allMatch(i -> notes.get(i).head == 0);
    }

    private int high(int staff, int tick) {
        int high = 8;
        for (int i : there(staff, tick)) {
            high = Math.max(high, step(i));
            if (up(i) && !onlyWhole(chordOf(i))) {
                high = Math.max(high, Math.max(4, highest(chordOf(i)) + 7));
            }
        }
        return high;
    }

    private int low(int staff, int tick) {
        int low = 0;
        for (int i : there(staff, tick)) {
            low = Math.min(low, step(i));
            if (!up(i) && !onlyWhole(chordOf(i))) {
                low = Math.min(low, Math.min(4, lowest(chordOf(i)) - 7));
            }
        }
        return low;
    }

    int at(int staff, int tick, int what) {
        if (!in(0, staff, 3)) {
            return UNKNOWN;
        }
        if (!in(0, tick, 99) || !in(0, what, 4)) {
            return OUTSIDE;
        }
        List<Integer> all = there(staff, tick);
        return switch (what) {
            case 0 -> high(staff, tick);
            case 1 -> low(staff, tick);
            case 2 -> all.size();
            case 3 -> (int) all.stream().map(i -> notes.get(i).voice).distinct().count();
            default -> {
                int most = 0;
                for (int c : signs(staff, tick)) {
                    most = Math.max(most, c);
                }
                yield most;
            }
        };
    }

    int shared(int a, int b) {
        return !named(a) || !named(b) ? UNKNOWN : sharedHeads(a, b) ? 1 : 0;
    }

    int setting(int what, int v) {
        if (what != 0 && what != 1 || v < 0 || v > 100) {
            return OUTSIDE;
        }
        int was = settings[what];
        settings[what] = v;
        return was;
    }

    int hides(boolean on) {
        int was = hiding ? 1 : 0;
        hiding = on;
        return was;
    }

    private boolean hidden(int staff) {
        return hiding && staff > 0 && notes.stream().noneMatch(n -> n.staff == staff);
    }

    int gap(int staff) {
        if (!in(0, staff, 3)) {
            return UNKNOWN;
        }
        if (staff == 0 || hidden(staff)) {
            return NONE;
        }
        int upper = staff - 1;
        while (hidden(upper)) {
            upper--;
        }
        int gap = settings[1];
        for (int tick = 0; tick < 100; tick++) {
            gap = Math.max(gap, Math.abs(low(upper, tick)) + high(staff, tick) - 8 + settings[0]);
        }
        return gap;
    }

    long place(int staff) {
        if (!in(0, staff, 3)) {
            return UNKNOWN;
        }
        if (hidden(staff)) {
            return NONE;
        }
        long steps = 0;
        for (int s = 1; s <= staff; s++) {
            steps += hidden(s) ? 0 : gap(s) + 8;
        }
        return steps * unit;
    }

    int crowded(int staff) throws ArithmeticException {
        if (!in(0, staff, 3)) {
            return UNKNOWN;
        }
        Set<Integer> used = new HashSet<>();
        Set<Integer> moved = new HashSet<>();
        for (int i = 0; i < notes.size(); i++) {
            if (notes.get(i).staff == staff) {
                used.add(notes.get(i).tick);
                if (movedBy(i) > 0) {
                    moved.add(notes.get(i).tick);
                }
            }
        }
        if (used.isEmpty()) {
            throw new ArithmeticException();
        }
        return moved.size() * 1000 / used.size();
    }

    int about(int what) {
        return switch (what) {
            case 0 -> notes.size();
            case 1 -> shifts.size();
            case 2 -> 1 + (hidden(1) ? 0 : 1) + (hidden(2) ? 0 : 1) + (hidden(3) ? 0 : 1);
            default -> OUTSIDE;
        };
    }
}
