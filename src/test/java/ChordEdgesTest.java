/**
 * The edges that the second part of 'Terms' names (CHORDS, STEMS, heads, SIGNS), a method for
 * each sentence; it stands above its method.
 */
public final class ChordEdgesTest extends Terms {
    private static final Check check = new Check("ChordEdgesTest");

    public static void main(String[] args) {
        chordOfOne();
        chordOfSixty();
        stemWithOtherVoices();
        stemWithoutOtherVoices();
        asideOrder();
        asideNearness();
        asideNotAfterAside();
        asideSide();
        movedByVoices();
        movedByTheLeast();
        movedFromNought();
        columnsOfHeads();
        lyingOverByStep();
        lyingOverByColumn();
        sharedByEachCondition();
        sharedOnlySomeHeads();
        signsInTurns();
        signsOfEqualSteps();
        signsSixStepsAway();
        signsFromColumnOne();
        signsWithoutBareNotes();
        signsOfSameStepAndSign();
        signsInManyColumns();
        check.end();
    }

    /** Adds a NOTE with a SIGN to STAFF 0. */
    private static void sign(StaffHeads x, int voice, int tick, int step, int sign) {
        add(x, 0, voice, tick, step, sign, BLACK);
    }

    /** "A CHORD are all NOTES of one STAFF, VOICE and TICK": what differs in one of them is none of it. */
    private static void chordOfOne() {
        StaffHeads x = new StaffHeads(1);
        add(x, 1, 1, 50, 4, BARE, BLACK);
        check.due("a chord of one note", x.of(0, SIZE), 1);
        add(x, 2, 1, 50, 4, BARE, BLACK);
        add(x, 1, 2, 50, 4, BARE, BLACK);
        add(x, 1, 1, 51, 4, BARE, BLACK);
        check.dueOf("unlike staff, voice, tick", x, SIZE, 0, 1, 1, 1, 1);
        add(x, 1, 1, 50, 4, BARE, BLACK);
        check.dueOf("a second note, like the first in all", x, SIZE, 0, 2, 1, 1, 1, 2);
        x.drop(4);
        check.dueOf("it went", x, SIZE, 0, 1, 1, 1, 1);
    }

    /** The same for as many NOTES as there can be. */
    private static void chordOfSixty() {
        StaffHeads x = new StaffHeads(1);
        for (int i = 0; i < 60; i++) {
            add(x, 3, 2, 99, 39 - i, BARE, BLACK);
        }
        check.due("sixty in a chord, the first", x.of(0, SIZE), 60);
        check.due("sixty in a chord, the last", x.of(59, SIZE), 60);
        check.due("sixty notes", x.at(3, 99, NOTES), 60);
        check.due("one chord", x.at(3, 99, CHORDS), 1);
        check.due("the highest of them", x.at(3, 99, HIGH), 39);
        check.due("the lowest of them", x.at(3, 99, LOW), -20 - 7);
    }

    /** "if its STAFF has CHORDS of other VOICES at its TICK: of the least of these VOICES (its own, too) up" */
    private static void stemWithOtherVoices() {
        int[][] voices = {{0, 1}, {0, 2}, {1, 2}, {0, 1, 2}};
        for (int[] some : voices) {
            StaffHeads x = new StaffHeads(1);
            // The greatest VOICE comes first and lies lowest, so that its STEPS alone would turn it up.
            for (int i = some.length - 1; i >= 0; i--) {
                addChord(x, some[i], 0, 30 - 25 * i);
            }
            for (int i = 0; i < some.length; i++) {
                int n = some.length - 1 - i;
                check.due("stem of voice " + some[i] + " among " + some.length, x.of(n, STEM), i == 0 ? 1 : 0);
            }
        }
        StaffHeads x = new StaffHeads(1);
        addChord(x, 2, 0, 0);
        add(x, 1, 0, 0, 9, BARE, BLACK);
        addChord(x, 0, 1, 9);
        check.dueOf("other staves and ticks have no say", x, STEM, 0, 1, 0, 0);
        addChord(x, 0, 0, 9);
        check.dueOf("another voice there has", x, STEM, 0, 0, 0, 0, 1);
        x.drop(3);
        check.dueOf("not when it went", x, STEM, 0, 1, 0, 0);
    }

    /** "Else up, if its highest STEP less 4 is below 4 less its lowest STEP; else down" */
    private static void stemWithoutOtherVoices() {
        // lowest STEP, highest STEP, STEM
        int[][] rows = {{3, 3, 1}, {4, 4, 0}, {5, 5, 0}, {0, 7, 1}, {0, 8, 0}, {0, 9, 0}, {-1, 8, 1}, {1, 8, 0},
            {2, 6, 0}, {2, 5, 1}, {3, 6, 0}, {-30, 37, 1}, {-30, 38, 0}, {-30, 39, 0}};
        for (int[] row : rows) {
            for (int voice = 0; voice < 3; voice++) {
                StaffHeads x = new StaffHeads(1);
                addChord(x, voice, 0, row[1], 4, row[0]);
                if (row[0] == row[1]) {
                    x.drop(1);
                }
                check.due("stem of " + row[0] + " to " + row[1] + ", voice " + voice, x.of(0, STEM), row[2]);
            }
        }
    }

    /** "from the lowest STEP on, if its STEM goes up, else from the highest; of equal ones by numbers" */
    private static void asideOrder() {
        StaffHeads x = new StaffHeads(1);
        addChord(x, 0, 0, 1, 0);
        check.dueOf("up: from the lowest on", x, ASIDE, 0, 1, 0);
        addChord(x, 0, 1, 8, 9);
        check.dueOf("down: from the highest on", x, ASIDE, 2, -1, 0);
        addChord(x, 0, 2, 0, 0, 0);
        check.dueOf("up: equal ones by numbers", x, ASIDE, 4, 0, 1, 0);
        addChord(x, 0, 3, 9, 9, 9);
        check.dueOf("down: equal ones by numbers", x, ASIDE, 7, 0, -1, 0);
        x.drop(4);
        check.dueOf("by the numbers that are left", x, ASIDE, 4, 0, 1, 0, -1, 0);
        add(x, 0, 0, 2, 0, BARE, BLACK);
        check.due("one that comes is the last", x.of(9, ASIDE), 0);
    }

    /** "if the one just before it is at most one STEP away" */
    private static void asideNearness() {
        for (int apart = 0; apart <= 3; apart++) {
            StaffHeads x = new StaffHeads(1);
            addChord(x, 0, 0, 0, apart);
            addChord(x, 0, 1, 9, 9 - apart);
            check.dueOf("up, " + apart + " apart", x, ASIDE, 0, 0, apart <= 1 ? 1 : 0);
            check.dueOf("down, " + apart + " apart", x, ASIDE, 2, 0, apart <= 1 ? -1 : 0);
        }
        StaffHeads x = new StaffHeads(1);
        addChord(x, 0, 0, 0, 2, 1);
        check.dueOf("the one just before, not any before", x, ASIDE, 0, 0, 0, 1);
        addChord(x, 0, 1, -5);
        check.due("one that has none before it", x.of(3, ASIDE), 0);
    }

    /** "and is not aside" */
    private static void asideNotAfterAside() {
        StaffHeads x = new StaffHeads(1);
        addChord(x, 0, 0, -4, -3, -2, -1, 0, 2, 3);
        check.dueOf("up, in turns", x, ASIDE, 0, 0, 1, 0, 1, 0, 0, 1);
        addChord(x, 0, 1, 12, 11, 10, 9, 7, 6, 5);
        check.dueOf("down, in turns", x, ASIDE, 7, 0, -1, 0, -1, 0, -1, 0);
        x.drop(0);
        check.dueOf("the turns begin elsewhere", x, ASIDE, 0, 0, 1, 0, 1, 0, 1);
    }

    /** "it is 1 to the right, if the STEM goes up, else 1 to the left" */
    private static void asideSide() {
        StaffHeads x = new StaffHeads(1);
        addChord(x, 1, 0, 0, 1);
        check.dueOf("up by its steps", x, ASIDE, 0, 0, 1);
        addChord(x, 0, 0, 20, 21);
        check.dueOf("down for another voice, and from the highest", x, ASIDE, 0, -1, 0, 0, 1);
        x.drop(3);
        x.drop(2);
        check.dueOf("alone again", x, ASIDE, 0, 0, 1);
    }

    /** "MOVED: CHORDS of one STAFF and TICK by VOICES": of other STAVES and TICKS none is in the way. */
    private static void movedByVoices() {
        StaffHeads x = new StaffHeads(1);
        addHeads(x, 1, 5, HALF, 4);
        add(x, 1, 0, 5, 4, BARE, BLACK);
        add(x, 0, 0, 4, 4, BARE, BLACK);
        add(x, 0, 0, 6, 4, BARE, BLACK);
        check.dueOf("nothing in the way", x, MOVED, 0, 0, 0, 0, 0);
        addHeads(x, 0, 5, BLACK, 4);
        check.dueOf("the greater voice is moved, though it came first", x, MOVED, 0, 1, 0, 0, 0, 0);
        addHeads(x, 2, 5, WHOLE, 4);
        check.dueOf("the greatest is moved past both", x, MOVED, 0, 1, 0, 0, 0, 0, 2);
        x.drop(0);
        check.dueOf("past one only", x, MOVED, 0, 0, 0, 0, 0, 1);
        x.drop(3);
        check.dueOf("alone", x, MOVED, 0, 0, 0, 0, 0);
    }

    /** "each by the least number (..) for which no head of it lies over one of a lesser VOICE" */
    private static void movedByTheLeast() {
        StaffHeads x = new StaffHeads(1);
        addHeads(x, 0, 0, BLACK, 0, 1, 8);
        addHeads(x, 1, 0, HALF, 0, 8);
        addHeads(x, 2, 0, WHOLE, 8);
        // At 8 the COLUMNS 0 and 2 are taken; 1 lies between them, 3 behind them.
        check.dueOf("a place between two lesser voices", x, MOVED, 0, 0, 0, 0, 2, 2, 1);
        StaffHeads y = new StaffHeads(1);
        addHeads(y, 0, 0, BLACK, 1, 2);
        addHeads(y, 1, 0, HALF, 1, 2);
        addHeads(y, 2, 0, WHOLE, 1, 2);
        check.dueOf("as far as three voices go", y, MOVED, 0, 0, 0, 3, 3, 5, 5);
    }

    /** "(0 and more)": never to the left, and not at all where nothing lies over another. */
    private static void movedFromNought() {
        StaffHeads x = new StaffHeads(1);
        addChord(x, 0, 0, 8);
        addChord(x, 1, 0, 0);
        check.dueOf("far apart", x, MOVED, 0, 0, 0);
        addChord(x, 2, 1, 4);
        check.due("a lone voice", x.of(2, MOVED), 0);
        addHeads(x, 0, 2, BLACK, 0, 1);
        addHeads(x, 1, 2, HALF, 1);
        // One COLUMN to the left would be free, too.
        check.dueOf("to the right alone", x, MOVED, 3, 0, 0, 2);
    }

    /** "The COLUMN of a head is what its CHORD is MOVED by, and 1 more to the right, less to the left if .. aside" */
    private static void columnsOfHeads() {
        StaffHeads x = new StaffHeads(1);
        addChord(x, 0, 0, 0, 1);
        check.dueOf("not moved, to the right", x, COLUMN, 0, 0, 1);
        addChord(x, 0, 1, 9, 8);
        check.dueOf("not moved, to the left", x, COLUMN, 2, 0, -1);
        addHeads(x, 0, 2, BLACK, 9);
        addHeads(x, 1, 2, HALF, 9, 8);
        check.dueOf("moved by", x, MOVED, 4, 0, 2, 2);
        check.dueOf("moved, to the left", x, COLUMN, 4, 0, 2, 1);
    }

    /** "if they have one COLUMN and their STEPS are at most 1 apart" */
    private static void lyingOverByStep() {
        for (int apart = -3; apart <= 3; apart++) {
            StaffHeads x = new StaffHeads(1);
            addHeads(x, 0, 0, BLACK, 4);
            addHeads(x, 1, 0, HALF, 4 + apart);
            check.due(apart + " apart", x.of(1, MOVED), Math.abs(apart) <= 1 ? 1 : 0);
        }
    }

    /** The same sentence, of heads near one another in unlike COLUMNS. */
    private static void lyingOverByColumn() {
        StaffHeads x = new StaffHeads(1);
        addHeads(x, 0, 0, BLACK, 0, 1);
        addHeads(x, 1, 0, HALF, 2);
        // 2 is near 1, but that one is aside in COLUMN 1, and 0 is too far away.
        check.dueOf("beside one that is aside", x, MOVED, 0, 0, 0, 0);
        addHeads(x, 0, 1, BLACK, 9);
        addHeads(x, 1, 1, HALF, 7, 8);
        // 7 is aside to the left, in COLUMN -1; 8 lies over 9, and moved by 1 neither does.
        check.dueOf("its own aside head comes into the column", x, MOVED, 3, 0, 1, 1);
    }

    /** "but if they are SHARED: of one STEP, HEAD and SIGN, the STEMS one up, one down" */
    private static void sharedByEachCondition() {
        // STEP, SIGN, HEAD of VOICE 1 beside 4, 1, BLACK of VOICE 0; whether SHARED
        int[][] rows = {{4, 1, BLACK, 1}, {3, 1, BLACK, 0}, {5, 1, BLACK, 0}, {4, 0, BLACK, 0}, {4, BARE, BLACK, 0},
            {4, 1, HALF, 0}, {4, 1, WHOLE, 0}};
        for (int[] row : rows) {
            StaffHeads x = new StaffHeads(1);
            add(x, 0, 0, 0, 4, 1, BLACK);
            add(x, 0, 1, 0, row[0], row[1], row[2]);
            String name = "step " + row[0] + ", sign " + row[1] + ", head " + row[2];
            check.due(name + ": shared", x.shared(0, 1), row[3]);
            check.due(name + ": moved", x.of(1, MOVED), 1 - row[3]);
        }
        StaffHeads x = new StaffHeads(1);
        addChord(x, 0, 0, 20);
        addChord(x, 1, 0, 4);
        addChord(x, 2, 0, 4);
        check.due("both stems down: shared", x.shared(1, 2), 0);
        check.due("both stems down: moved", x.of(2, MOVED), 1);
        StaffHeads y = new StaffHeads(1);
        addChord(y, 0, 0, 4, 4);
        check.due("of one chord: shared", y.shared(0, 1), 0);
        StaffHeads z = new StaffHeads(1);
        addHeads(z, 1, 0, WHOLE, 4);
        addHeads(z, 2, 0, WHOLE, 4);
        check.due("without signs, whole, voices 1 and 2: shared", z.shared(0, 1), 1);
        check.due("without signs, whole, voices 1 and 2: moved", z.of(1, MOVED), 0);
    }

    /** The same sentence: one SHARED head does not help the others of its CHORD. */
    private static void sharedOnlySomeHeads() {
        StaffHeads x = new StaffHeads(1);
        addChord(x, 0, 0, 4, 8);
        addChord(x, 1, 0, 4, 7);
        check.due("one is shared", x.shared(0, 2), 1);
        check.due("one lies over another", x.of(2, MOVED), 1);
        addChord(x, 0, 1, 4, 8);
        addChord(x, 1, 1, 4, 8);
        check.dueOf("all are shared", x, MOVED, 4, 0, 0, 0, 0);
    }

    /** "the one with the highest STEP, then that with the lowest one, of those that are left again the highest" */
    private static void signsInTurns() {
        StaffHeads x = new StaffHeads(1);
        for (int step = 0; step < 5; step++) {
            sign(x, 0, 0, step, 1);
        }
        check.dueOf("from without inwards", x, SIGN_COLUMN, 0, 2, 4, 5, 3, 1);
        sign(x, 0, 1, 4, 1);
        check.due("one alone", x.of(5, SIGN_COLUMN), 1);
        sign(x, 2, 2, 0, 1);
        sign(x, 0, 2, 1, 1);
        check.dueOf("two, whatever their voices", x, SIGN_COLUMN, 6, 2, 1);
    }

    /** "(of equal STEPS that of the least number)" */
    private static void signsOfEqualSteps() {
        StaffHeads x = new StaffHeads(1);
        sign(x, 2, 0, 4, 1);
        sign(x, 1, 0, 4, -1);
        sign(x, 0, 0, 4, 0);
        check.dueOf("all of one step", x, SIGN_COLUMN, 0, 1, 2, 3);
        sign(x, 0, 1, 4, 0);
        sign(x, 0, 1, 0, 1);
        sign(x, 0, 1, 0, -1);
        check.dueOf("of two lowest", x, SIGN_COLUMN, 3, 1, 2, 3);
        sign(x, 0, 2, 0, 0);
        sign(x, 0, 2, 4, 1);
        sign(x, 0, 2, 4, -1);
        check.dueOf("of two highest", x, SIGN_COLUMN, 6, 2, 1, 3);
        x.drop(0);
        check.dueOf("by the numbers that are left", x, SIGN_COLUMN, 0, 1, 2);
    }

    /** "in which no other one stands that is less than 6 STEPS away" */
    private static void signsSixStepsAway() {
        for (int apart = 0; apart <= 7; apart++) {
            StaffHeads x = new StaffHeads(1);
            sign(x, 0, 0, 4, 1);
            sign(x, 0, 0, 4 - apart, 0);
            check.dueOf(apart + " steps away", x, SIGN_COLUMN, 0, 1, apart < 6 ? 2 : 1);
        }
    }

    /** "Each gets the least COLUMN from 1 on": one further left is not taken while a nearer one is free. */
    private static void signsFromColumnOne() {
        StaffHeads x = new StaffHeads(1);
        sign(x, 0, 0, 20, 1);
        sign(x, 0, 0, 0, 1);
        sign(x, 0, 0, 15, 1);
        sign(x, 0, 0, 9, 1);
        // 20 has COLUMN 1, 0 too; 15 has 2; 9 is 6 away from 15 and more from the others.
        check.dueOf("column 1 is free again", x, SIGN_COLUMN, 0, 1, 1, 2, 1);
        check.due("two columns in all", x.at(0, 0, SIGNS), 2);
        sign(x, 0, 1, 20, 1);
        sign(x, 0, 1, 14, 1);
        check.dueOf("another tick has columns of its own", x, SIGN_COLUMN, 4, 1, 1);
        x.drop(0);
        // 15 comes first now, then 0; 9 is far enough from both.
        check.dueOf("one went", x, SIGN_COLUMN, 0, 1, 1, 1, 1, 1);
        check.due("one column in all", x.at(0, 0, SIGNS), 1);
    }

    /** "(SIGN 3 aside)": a NOTE without a SIGN takes neither a COLUMN nor a turn. */
    private static void signsWithoutBareNotes() {
        StaffHeads x = new StaffHeads(1);
        sign(x, 0, 0, 2, 1);
        sign(x, 0, 0, 9, BARE);
        sign(x, 0, 0, 3, 1);
        sign(x, 0, 0, -9, BARE);
        sign(x, 0, 0, 4, 1);
        check.dueOf("signs among bare notes", x, SIGN_COLUMN, 0, 2, 0, 3, 0, 1);
        sign(x, 0, 1, 4, BARE);
        sign(x, 1, 1, 4, BARE);
        check.due("none at all", x.at(0, 1, SIGNS), 0);
        check.dueOf("none at all", x, SIGN_COLUMN, 5, 0, 0);
    }

    /** "but one of the same STEP and SIGN as another that is placed has that one's" */
    private static void signsOfSameStepAndSign() {
        StaffHeads x = new StaffHeads(1);
        sign(x, 0, 0, 4, 1);
        sign(x, 1, 0, 4, 1);
        sign(x, 2, 0, 4, 1);
        check.dueOf("all alike", x, SIGN_COLUMN, 0, 1, 1, 1);
        check.due("one column", x.at(0, 0, SIGNS), 1);
        sign(x, 0, 1, 4, 1);
        sign(x, 1, 1, 4, 2);
        sign(x, 2, 1, 4, 1);
        check.dueOf("one of them unlike", x, SIGN_COLUMN, 3, 1, 2, 1);
        sign(x, 0, 2, 4, 1);
        sign(x, 1, 2, 3, 1);
        check.dueOf("of one sign, but not of one step", x, SIGN_COLUMN, 6, 1, 2);
        sign(x, 0, 3, 4, 1);
        sign(x, 0, 4, 4, 1);
        add(x, 1, 0, 3, 4, 1, BLACK);
        check.dueOf("of other ticks and staves", x, SIGN_COLUMN, 8, 1, 1, 1);
        sign(x, 0, 5, 5, 0);
        sign(x, 0, 5, 4, 1);
        sign(x, 1, 5, 4, 1);
        check.dueOf("not in the first column", x, SIGN_COLUMN, 11, 1, 2, 2);
    }

    /** As many COLUMNS as can be needed at once: 6 STEPS with 5 SIGNS each. */
    private static void signsInManyColumns() {
        StaffHeads x = new StaffHeads(1);
        for (int i = 0; i < 60; i++) {
            sign(x, i % 3, 0, i % 6, i / 6 % 5 - 2);
        }
        check.due("thirty columns", x.at(0, 0, SIGNS), 30);
        boolean[] seen = new boolean[31];
        for (int i = 0; i < 30; i++) {
            int column = x.of(i, SIGN_COLUMN);
            check.holds("a column of its own for " + i, column >= 1 && column <= 30 && !seen[column]);
            seen[column] = true;
            check.due("the same for its like", x.of(i + 30, SIGN_COLUMN), column);
        }
    }
}
