import java.util.Random;

/**
 * Runs of 512 calls on StaffHeads and on its Twin, drawn by a fixed seed: the answers must be
 * the same, and nothing but crowded's ArithmeticException may be thrown.
 */
public final class TwinTest {
    private static final int RUNS = 160;
    private static final int CALLS = 512;
    private static final int[] WILD = {Integer.MIN_VALUE, Integer.MAX_VALUE, -1, -3, 3, 4, 5, 6, 7, 9, 10,
        12, 59, 60, 61, 99, 100, 101, 400, 65536};

    private final Random random;
    private final Check check;
    private final int ticks;
    private final int staves;
    private final int octaves;
    private final boolean mostlyNotes;
    private StaffHeads heads;
    private Twin twin;
    private String told = "";

    private TwinTest(Check check, int run) {
        this.check = check;
        random = new Random(run);
        ticks = new int[] {1, 2, 6, 100}[run % 4];
        staves = 1 + random.nextInt(4);
        octaves = 1 + random.nextInt(random.nextBoolean() ? 2 : 10);
        mostlyNotes = random.nextBoolean();
        int unit = random.nextInt(4) == 0 ? WILD[random.nextInt(WILD.length)] : 1 + random.nextInt(65536);
        heads = new StaffHeads(unit);
        twin = new Twin(unit);
        told = "run " + run + " (unit " + unit + ") ";
    }

    public static void main(String[] args) {
        Check check = new Check("TwinTest");
        for (int run = 0; run < RUNS; run++) {
            TwinTest test = new TwinTest(check, run);
            for (int call = 0; call < CALLS; call++) {
                test.call(call);
            }
        }
        check.end();
    }

    /** Mostly a number below the bound, now and then any other one. */
    private int pick(int from, int to) {
        return random.nextInt(60) == 0 ? WILD[random.nextInt(WILD.length)] : from + random.nextInt(to - from + 1);
    }

    private int staff() {
        return pick(0, staves - 1);
    }

    private int note() {
        return pick(0, Math.max(0, heads.about(0) - 1));
    }

    private void call(int call) {
        int k = random.nextInt(mostlyNotes ? 40 : 60);
        String where = told + "call " + call + ": ";
        if (k < 12) {
            addNote(where);
        } else if (k < 18) {
            change(where, k);
        } else if (k < 28) {
            int n = note();
            int w = pick(0, 8);
            check.due(where + "of(" + n + ", " + w + ")", heads.of(n, w), twin.of(n, w));
        } else if (k < 32) {
            int s = staff();
            int t = pick(0, ticks - 1);
            int w = pick(0, 4);
            check.due(where + "at(" + s + ", " + t + ", " + w + ")", heads.at(s, t, w), twin.at(s, t, w));
        } else {
            ask(where, k);
        }
    }

    private void addNote(String where) {
        int[] a = {staff(), pick(0, 2), pick(0, ticks - 1), pick(0, 6),
            pick(octaves < 3 ? 4 : 0, octaves < 3 ? 3 + octaves : octaves - 1), pick(-2, 3), pick(0, 2)};
        if (random.nextInt(3) > 0) {
            a[5] = 3;
        }
        if (random.nextBoolean()) {
            a[6] = 2;
        }
        check.due(where + "note" + java.util.Arrays.toString(a),
                heads.note(a[0], a[1], a[2], a[3], a[4], a[5], a[6]),
                twin.note(a[0], a[1], a[2], a[3], a[4], a[5], a[6]));
    }

    private void change(String where, int k) {
        int s = staff();
        int p = pick(0, 2);
        switch (k) {
            case 12 -> {
                int l = pick(1, 5);
                check.due(where + "clef(" + s + ", " + p + ", " + l + ")", heads.clef(s, p, l), twin.clef(s, p, l));
            }
            case 13 -> {
                int f = pick(0, ticks - 1);
                int t = random.nextInt(5) == 0 ? pick(0, ticks - 1) : Math.min(99, f + random.nextInt(4));
                int o = pick(-2, 2);
                check.due(where + "shift(" + s + ", " + f + ", " + t + ", " + o + ")",
                        heads.shift(s, f, t, o), twin.shift(s, f, t, o));
            }
            case 14 -> {
                if (random.nextInt(12) == 0) {
                    check.due(where + "plain()", heads.plain(), twin.plain());
                }
            }
            case 15 -> {
                int v = pick(0, 100);
                check.due(where + "setting(" + p % 2 + ", " + v + ")", heads.setting(p % 2, v), twin.setting(p % 2, v));
            }
            case 16 -> {
                boolean on = random.nextBoolean();
                check.due(where + "hides(" + on + ")", heads.hides(on), twin.hides(on));
            }
            default -> {
                int n = note();
                check.due(where + "drop(" + n + ")", heads.drop(n), twin.drop(n));
            }
        }
    }

    private void ask(String where, int k) {
        int s = pick(0, 3);
        int n = note();
        switch (k % 6) {
            case 0 -> check.due(where + "gap(" + s + ")", heads.gap(s), twin.gap(s));
            case 1 -> check.due(where + "place(" + s + ")", heads.place(s), twin.place(s));
            case 2 -> check.due(where + "height(" + n + ")", heads.height(n), twin.height(n));
            case 3 -> {
                int m = note();
                check.due(where + "shared(" + n + ", " + m + ")", heads.shared(n, m), twin.shared(n, m));
            }
            case 4 -> crowded(where, s);
            default -> {
                int w = pick(0, 2);
                check.due(where + "about(" + w + ")", heads.about(w), twin.about(w));
            }
        }
    }

    private void crowded(String where, int s) {
        long got;
        long want;
        try {
            got = heads.crowded(s);
        } catch (ArithmeticException e) {
            got = Long.MIN_VALUE;
        }
        try {
            want = twin.crowded(s);
        } catch (ArithmeticException e) {
            want = Long.MIN_VALUE;
        }
        check.due(where + "crowded(" + s + ")", got, want);
    }
}
