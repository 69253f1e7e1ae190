/** The document's words as numbers, and NOTES given by STEPS, for the tests that extend it. */
abstract class Terms {
    static final int UNKNOWN = StaffHeads.UNKNOWN, OUTSIDE = StaffHeads.OUTSIDE;
    static final int FULL = StaffHeads.FULL, NONE = StaffHeads.NONE;
    static final int WHOLE = 0, HALF = 1, BLACK = 2;
    static final int BARE = 3;
    static final int LEAST_INT = Integer.MIN_VALUE, GREATEST_INT = Integer.MAX_VALUE;
    static final int[] NO_STAFF = {-1, 4, LEAST_INT, GREATEST_INT};
    static final int STEP = 0, BELOW = 1, ABOVE = 2, STEM = 3, ASIDE = 4, COLUMN = 5,
        SIGN_COLUMN = 6, MOVED = 7, SIZE = 8;
    static final int HIGH = 0, LOW = 1, NOTES = 2, CHORDS = 3, SIGNS = 4;
    static final int PAD = 0, LEAST = 1;
    /** Stands for crowded's ArithmeticException among answers. */
    static final int THROWN = 1_000_000;

    /** Adds a NOTE by the STEP that the first CLEF gives it. */
    static int add(StaffHeads x, int staff, int voice, int tick, int step, int sign, int head) {
        int number = 30 + step;
        return x.note(staff, voice, tick, number % 7, number / 7, sign, head);
    }

    static void addChord(StaffHeads x, int voice, int tick, int... steps) {
        addHeads(x, voice, tick, BLACK, steps);
    }

    static void addHeads(StaffHeads x, int voice, int tick, int head, int... steps) {
        for (int step : steps) {
            add(x, 0, voice, tick, step, BARE, head);
        }
    }

    static int noteOf(StaffHeads x, int[] a) {
        return x.note(a[0], a[1], a[2], a[3], a[4], a[5], a[6]);
    }

    static int crowdedOf(StaffHeads x, int staff) {
        try {
            return x.crowded(staff);
        } catch (ArithmeticException e) {
            return e.getClass() == ArithmeticException.class ? THROWN : -THROWN;
        }
    }
}
