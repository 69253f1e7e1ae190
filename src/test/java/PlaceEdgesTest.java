/**
 * The edges that the third part of 'Terms' names (HIGH, LOW, HIDDEN, GAP, PLACE), a method for
 * each sentence; it stands above its method.
 */
public final class PlaceEdgesTest extends Terms {
    private static final Check check = new Check("PlaceEdgesTest");

    public static void main(String[] args) {
        highWithoutStems();
        highWithStems();
        highAtLeastFour();
        lowWithoutStems();
        lowWithStems();
        lowAtMostFour();
        stemsOnlyOfChordsWithOtherHeads();
        highAndLowWhereNothingIs();
        hiddenByHiding();
        hiddenNeverStaffNought();
        hiddenWithoutNotes();
        gapBelowTheOneBefore();
        gapOverAllTicks();
        gapOfLowHighAndPad();
        gapAtLeast();
        padAndLeastAtFirst();
        placeInUnits();
        placeFarthest();
        check.end();
    }

    /** An object whose STAFF 1 has a lone NOTE at TICK 50. */
    private static StaffHeads lone(int step, int head) {
        StaffHeads x = new StaffHeads(1);
        add(x, 1, 0, 50, step, BARE, head);
        return x;
    }

    /** "HIGH .. is the greatest of 8, of the STEPS of NOTES there" */
    private static void highWithoutStems() {
        int[][] rows = {{-30, 8}, {7, 8}, {8, 8}, {9, 9}, {39, 39}};
        for (int[] row : rows) {
            check.due("high of a whole head at " + row[0], lone(row[0], WHOLE).at(1, 50, HIGH), row[1]);
        }
        StaffHeads x = lone(9, WHOLE);
        add(x, 1, 1, 50, 12, BARE, WHOLE);
        add(x, 1, 2, 50, 11, BARE, WHOLE);
        check.due("high of the greatest of them", x.at(1, 50, HIGH), 12);
    }

    /** "and of ends of STEMS that go up ..: the highest STEP and 7" */
    private static void highWithStems() {
        int[][] rows = {{0, 8}, {1, 8}, {2, 9}, {3, 10}, {4, 8}, {8, 8}, {9, 9}};
        for (int[] row : rows) {
            check.due("high of a black head at " + row[0], lone(row[0], BLACK).at(1, 50, HIGH), row[1]);
            check.due("high of a half head at " + row[0], lone(row[0], HALF).at(1, 50, HIGH), row[1]);
        }
        StaffHeads x = new StaffHeads(1);
        addChord(x, 0, 0, 8, 2);
        addChord(x, 1, 0, 5, 14);
        check.due("the highest of the chord that goes up", x.at(0, 0, HIGH), 15);
        addChord(x, 1, 0, 16);
        check.due("a head of the one that goes down", x.at(0, 0, HIGH), 16);
    }

    /** "at least 4": a STEM from far below the STAFF ends on it. */
    private static void highAtLeastFour() {
        for (int step : new int[] {-2, -3, -4, -30}) {
            check.due("high of a stem from " + step, lone(step, BLACK).at(1, 50, HIGH), 8);
        }
    }

    /** "LOW the least of 0, of STEPS" */
    private static void lowWithoutStems() {
        int[][] rows = {{39, 0}, {1, 0}, {0, 0}, {-1, -1}, {-30, -30}};
        for (int[] row : rows) {
            check.due("low of a whole head at " + row[0], lone(row[0], WHOLE).at(1, 50, LOW), row[1]);
        }
        StaffHeads x = lone(-2, WHOLE);
        add(x, 1, 1, 50, -5, BARE, WHOLE);
        add(x, 1, 2, 50, -4, BARE, WHOLE);
        check.due("low of the least of them", x.at(1, 50, LOW), -5);
    }

    /** "and of ends of STEMS that go down: the lowest STEP less 7" */
    private static void lowWithStems() {
        int[][] rows = {{8, 0}, {7, 0}, {6, -1}, {5, -2}, {4, -3}, {3, 0}, {0, 0}, {-1, -1}};
        for (int[] row : rows) {
            check.due("low of a black head at " + row[0], lone(row[0], BLACK).at(1, 50, LOW), row[1]);
            check.due("low of a half head at " + row[0], lone(row[0], HALF).at(1, 50, LOW), row[1]);
        }
        StaffHeads x = new StaffHeads(1);
        addChord(x, 1, 0, 0, 6);
        addChord(x, 0, 0, 3, -6);
        check.due("the lowest of the chord that goes down", x.at(0, 0, LOW), -7);
        addChord(x, 0, 0, -8);
        check.due("a head of the one that goes up", x.at(0, 0, LOW), -8);
    }

    /** "at most 4": a STEM from far above the STAFF ends on it. */
    private static void lowAtMostFour() {
        for (int step : new int[] {10, 11, 12, 39}) {
            check.due("low of a stem from " + step, lone(step, BLACK).at(1, 50, LOW), 0);
        }
    }

    /** "of CHORDS that have not only HEADS 0" */
    private static void stemsOnlyOfChordsWithOtherHeads() {
        for (int head : new int[] {HALF, BLACK}) {
            StaffHeads x = new StaffHeads(1);
            addHeads(x, 0, 0, WHOLE, 9, 3);
            addHeads(x, 1, 0, WHOLE, 5, -1);
            check.due("only whole heads: high", x.at(0, 0, HIGH), 9);
            check.due("only whole heads: low", x.at(0, 0, LOW), -1);
            addHeads(x, 0, 0, head, 6);
            check.due("one other head above: high", x.at(0, 0, HIGH), 16);
            check.due("one other head above: low", x.at(0, 0, LOW), -1);
            addHeads(x, 1, 0, head, 2);
            check.due("one other head below: low", x.at(0, 0, LOW), -8);
            x.drop(4);
            check.due("the one above went: high", x.at(0, 0, HIGH), 9);
            check.due("the one above went: low", x.at(0, 0, LOW), -8);
        }
    }

    /** HIGH and LOW are there without NOTES, too: the "8" and the "0" among what they are greatest and least of. */
    private static void highAndLowWhereNothingIs() {
        StaffHeads x = new StaffHeads(1);
        addChord(x, 0, 50, 20, -20);
        add(x, 2, 0, 50, 20, BARE, BLACK);
        x.hides(true);
        int[][] places = {{0, 0}, {0, 49}, {0, 51}, {0, 99}, {1, 50}, {2, 0}, {3, 50}, {3, 99}};
        for (int[] p : places) {
            check.due("high of staff " + p[0] + " at " + p[1], x.at(p[0], p[1], HIGH), 8);
            check.due("low of staff " + p[0] + " at " + p[1], x.at(p[0], p[1], LOW), 0);
        }
        addChord(x, 1, 50, 30, -30);
        addHeads(x, 0, 51, WHOLE, 4);
        check.due("a voice that is there only a tick before: high", x.at(0, 51, HIGH), 8);
        check.due("a voice that is there only a tick before: low", x.at(0, 51, LOW), 0);
    }

    /** "A STAFF is HIDDEN, if hiding is on (it is not at first)" */
    private static void hiddenByHiding() {
        StaffHeads x = new StaffHeads(1);
        check.due("none is hidden at first", x.about(2), 4);
        check.due("place at first", x.place(3), 42);
        x.hides(true);
        check.due("three are hidden", x.about(2), 1);
        check.due("no place", x.place(3), NONE);
        x.hides(false);
        check.due("none is hidden again", x.about(2), 4);
        check.due("place again", x.place(3), 42);
    }

    /** "it is not 0" */
    private static void hiddenNeverStaffNought() {
        StaffHeads x = new StaffHeads(1);
        x.hides(true);
        check.due("staff 0 without notes counts", x.about(2), 1);
        check.due("staff 0 without notes has a place", x.place(0), 0);
        add(x, 1, 0, 0, 4, BARE, BLACK);
        check.due("staff 1 stands below it", x.place(1), 14);
        check.due("staff 1's gap is from it", x.gap(1), 6);
    }

    /** "and has no NOTES" */
    private static void hiddenWithoutNotes() {
        for (int staff = 1; staff < 4; staff++) {
            StaffHeads x = new StaffHeads(1);
            x.hides(true);
            check.due("hidden: gap of staff " + staff, x.gap(staff), NONE);
            check.due("hidden: place of staff " + staff, x.place(staff), NONE);
            add(x, staff, 2, 99, 4, BARE, WHOLE);
            check.due("with one note: gap of staff " + staff, x.gap(staff), 6);
            check.due("with one note: place of staff " + staff, x.place(staff), 14);
            x.shift(staff, 0, 99, 0);
            x.clef(staff, 0, 2);
            x.drop(0);
            check.due("a clef and a shift are no notes: gap of staff " + staff, x.gap(staff), NONE);
            check.due("a clef and a shift are no notes: place of staff " + staff, x.place(staff), NONE);
        }
    }

    /** "Each STAFF that is not HIDDEN stands below the one before that is not" */
    private static void gapBelowTheOneBefore() {
        StaffHeads x = new StaffHeads(1);
        add(x, 0, 0, 0, -10, BARE, WHOLE);
        add(x, 1, 0, 0, -20, BARE, WHOLE);
        add(x, 3, 0, 0, 9, BARE, WHOLE);
        check.due("none hidden: gap of 3 from staff 2", x.gap(3), 6);
        x.hides(true);
        check.due("staff 2 hidden: gap of 3 from staff 1", x.gap(3), 20 + 1 + 2);
        check.due("staff 2 hidden: place of 3", x.place(3), 12 + 8 + 23 + 8);
        x.drop(1);
        check.due("staves 1 and 2 hidden: gap of 3 from staff 0", x.gap(3), 10 + 1 + 2);
        check.due("staves 1 and 2 hidden: place of 3", x.place(3), 13 + 8);
    }

    /** "the greatest, over all TICKS": the first and the last one count, and each TICK is taken by itself. */
    private static void gapOverAllTicks() {
        for (int tick : new int[] {0, 1, 50, 98, 99}) {
            StaffHeads x = new StaffHeads(1);
            add(x, 0, 0, tick, -9, BARE, WHOLE);
            check.due("what lies low at tick " + tick, x.gap(1), 11);
            add(x, 1, 0, tick, 12, BARE, WHOLE);
            check.due("and high at the same tick", x.gap(1), 15);
            x.drop(1);
            add(x, 1, 0, tick == 99 ? 0 : tick + 1, 12, BARE, WHOLE);
            check.due("and high at another tick", x.gap(1), 11);
        }
    }

    /** "of the upper one's LOW without its sign, and the lower one's HIGH less 8, and the PAD" */
    private static void gapOfLowHighAndPad() {
        StaffHeads x = new StaffHeads(1);
        x.setting(LEAST, 0);
        check.due("nothing lies out: the pad", x.gap(1), 2);
        x.setting(PAD, 0);
        check.due("nothing lies out, no pad", x.gap(1), 0);
        add(x, 0, 0, 0, -1, BARE, WHOLE);
        check.due("a step below", x.gap(1), 1);
        add(x, 1, 0, 0, 9, BARE, WHOLE);
        check.due("and a step above", x.gap(1), 2);
        x.setting(PAD, 100);
        check.due("and the greatest pad", x.gap(1), 102);
        add(x, 0, 0, 0, 30, BARE, WHOLE);
        add(x, 1, 0, 0, -30, BARE, WHOLE);
        check.due("the upper one's high and the lower one's low have no say", x.gap(1), 102);
    }

    /** "but at least LEAST" */
    private static void gapAtLeast() {
        StaffHeads x = new StaffHeads(1);
        add(x, 0, 0, 0, -18, BARE, WHOLE);
        int[][] rows = {{0, 20}, {19, 20}, {20, 20}, {21, 21}, {100, 100}};
        for (int[] row : rows) {
            x.setting(LEAST, row[0]);
            check.due("gap of 20, at least " + row[0], x.gap(1), row[1]);
            check.due("gap of 2, at least " + row[0], x.gap(2), Math.max(2, row[0]));
        }
    }

    /** "the PAD (2 at first)", "LEAST (6 at first)" */
    private static void padAndLeastAtFirst() {
        StaffHeads x = new StaffHeads(1);
        check.due("least at first", x.gap(1), 6);
        check.due("least was", x.setting(LEAST, 0), 6);
        check.due("pad at first", x.gap(1), 2);
        check.due("pad was", x.setting(PAD, 0), 2);
    }

    /** "how far its LINE 1 lies below that of STAFF 0, in UNITS: UNIT times the steps" */
    private static void placeInUnits() {
        for (int unit : new int[] {1, 2, 10, 65535, 65536}) {
            StaffHeads x = new StaffHeads(unit);
            for (int staff = 0; staff < 4; staff++) {
                check.due("unit " + unit + ": place of staff " + staff, x.place(staff), 14L * staff * unit);
            }
        }
        StaffHeads x = new StaffHeads(1);
        x.setting(PAD, 0);
        x.setting(LEAST, 0);
        check.due("staves that touch lie as high as they are", x.place(3), 24);
    }

    /** The same for the farthest that PAD, pitches, CLEFS and SHIFTS give. */
    private static void placeFarthest() {
        StaffHeads x = new StaffHeads(65536);
        x.setting(PAD, 100);
        for (int staff = 0; staff < 4; staff++) {
            x.note(staff, 0, 0, 6, 9, BARE, WHOLE);
            x.note(staff, 0, 0, 0, 0, BARE, WHOLE);
        }
        // LOW -30, HIGH 39 on each
        check.due("farthest without shifts", x.place(3), 3L * (30 + 31 + 100 + 8) * 65536);
        check.due("height of the lowest note", x.height(7), (-30 - 3L * (30 + 31 + 100 + 8)) * 65536);
        x.clef(3, 2, 5);
        for (int i = 0; i < 12; i++) {
            x.shift(3, 0, 0, -2);
        }
        // HIGH of STAFF 3: 69 - 24 + 8 + 168
        check.due("farthest with shifts", x.place(3), (2L * 169 + 30 + 221 - 8 + 100 + 8) * 65536);
    }
}
