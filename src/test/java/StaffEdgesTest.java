/**
 * The edges that the first part of 'Terms' names (STAVES, SHIFTS, NOTES), a method for each sentence; it
 * stands above its method. That refusals change nothing is for RefusalsTest.
 */
public final class StaffEdgesTest extends Terms {
    private static final Check check = new Check("StaffEdgesTest");

    public static void main(String[] args) {
        staves();
        linesOfClefs();
        pitchesOfClefs();
        clefsAtFirst();
        lettersAndOctaves();
        numbersOfPitches();
        shiftsTwelveInAll();
        shiftsBothTicksCount();
        shiftsByOctaves();
        notesSixty();
        voices();
        ticks();
        signs();
        heads();
        stepsByAllShifts();
        stepsOfLines();
        ledgersBelow();
        ledgersAbove();
        ledgersFarthest();
        check.end();
    }

    /** "STAVES 0 .. 3" */
    private static void staves() {
        StaffHeads x = new StaffHeads(1);
        for (int staff : new int[] {0, 3}) {
            check.due("note on staff " + staff, add(x, staff, 0, 0, 4, BARE, BLACK), staff == 0 ? 0 : 1);
            check.due("notes on staff " + staff, x.at(staff, 0, NOTES), 1);
        }
        for (int staff : NO_STAFF) {
            check.due("clef of staff " + staff, x.clef(staff, 0, 2), UNKNOWN);
            check.due("shift of staff " + staff, x.shift(staff, 0, 0, 0), UNKNOWN);
            check.due("note on staff " + staff, add(x, staff, 0, 0, 4, BARE, BLACK), UNKNOWN);
            check.due("at staff " + staff, x.at(staff, 0, HIGH), UNKNOWN);
            check.due("gap of staff " + staff, x.gap(staff), UNKNOWN);
            check.due("place of staff " + staff, x.place(staff), UNKNOWN);
            check.due("crowded of staff " + staff, crowdedOf(x, staff), UNKNOWN);
        }
    }

    /** "five lines, LINE 1 the lowest" */
    private static void linesOfClefs() {
        StaffHeads x = new StaffHeads(1);
        x.note(0, 0, 0, 4, 4, BARE, BLACK);
        check.due("clef on line 0", x.clef(0, 0, 0), OUTSIDE);
        check.due("clef on line 1", x.clef(0, 0, 1), 1);
        check.due("its pitch on line 1", x.of(0, STEP), 0);
        check.due("clef on line 5", x.clef(0, 0, 5), 1);
        check.due("its pitch on line 5", x.of(0, STEP), 8);
        check.due("clef on line 6", x.clef(0, 0, 6), OUTSIDE);
        check.due("clef on the least int", x.clef(0, 0, LEAST_INT), OUTSIDE);
        check.due("clef on the greatest int", x.clef(0, 0, GREATEST_INT), OUTSIDE);
    }

    /** "KIND 0 (its pitch is letter 4, octave 4 ..), 1 (letter 0, octave 4), 2 (letter 3, octave 3)" */
    private static void pitchesOfClefs() {
        int[][] pitches = {{4, 4}, {0, 4}, {3, 3}};
        for (int kind = 0; kind < pitches.length; kind++) {
            StaffHeads x = new StaffHeads(1);
            check.due("kind " + kind, x.clef(3, kind, 1), 1);
            x.note(3, 0, 0, pitches[kind][0], pitches[kind][1], BARE, BLACK);
            check.due("the pitch of kind " + kind + " is on the clef's line", x.of(0, STEP), 0);
        }
        StaffHeads x = new StaffHeads(1);
        for (int kind : new int[] {-1, 3, LEAST_INT, GREATEST_INT}) {
            check.due("kind " + kind, x.clef(3, kind, 1), OUTSIDE);
        }
    }

    /** "KIND 0 (..; at first, on LINE 2)" */
    private static void clefsAtFirst() {
        StaffHeads x = new StaffHeads(1);
        for (int staff = 0; staff < 4; staff++) {
            x.note(staff, 0, 0, 4, 4, BARE, BLACK);
            check.due("letter 4, octave 4 at first on line 2 of staff " + staff, x.of(staff, STEP), 2);
        }
    }

    /** "Letters are 0 .. 6, octaves 0 .. 9" */
    private static void lettersAndOctaves() {
        StaffHeads x = new StaffHeads(1);
        int[][] good = {{0, 0}, {6, 0}, {0, 9}, {6, 9}};
        for (int i = 0; i < good.length; i++) {
            check.due("letter " + good[i][0] + ", octave " + good[i][1],
                    x.note(0, 0, i, good[i][0], good[i][1], BARE, BLACK), i);
        }
        // A letter beyond 6 is not the next octave's, and one below 0 not the last one's.
        int[][] wrong = {{-1, 4}, {7, 4}, {LEAST_INT, 4}, {GREATEST_INT, 4},
            {4, -1}, {4, 10}, {4, LEAST_INT}, {4, GREATEST_INT}, {7, -1}, {-1, 10}};
        for (int[] pitch : wrong) {
            check.due("letter " + pitch[0] + ", octave " + pitch[1],
                    x.note(0, 0, 0, pitch[0], pitch[1], BARE, BLACK), OUTSIDE);
        }
        check.due("four came", x.about(0), 4);
    }

    /** "the NUMBER of a pitch is 7 times its octave, and its letter" */
    private static void numbersOfPitches() {
        for (int octave = 0; octave < 9; octave++) {
            StaffHeads x = new StaffHeads(1);
            x.note(0, 0, 0, 6, octave, BARE, BLACK);
            x.note(0, 0, 1, 0, octave + 1, BARE, BLACK);
            check.due("letter 6 of octave " + octave, x.of(0, STEP), 7 * octave - 24);
            check.due("letter 0 of the next octave is a step above it", x.of(1, STEP), 7 * octave - 23);
        }
    }

    /** "SHIFTS, 12 at most in all" */
    private static void shiftsTwelveInAll() {
        StaffHeads spread = new StaffHeads(1);
        StaffHeads heaped = new StaffHeads(1);
        for (int i = 1; i <= 12; i++) {
            check.due("shift " + i + " of several staves", spread.shift(i % 4, 0, 99, 1), i);
            check.due("shift " + i + " of one staff", heaped.shift(2, 0, 99, 1), i);
        }
        for (int staff = 0; staff < 4; staff++) {
            check.due("a thirteenth, staff " + staff, spread.shift(staff, 0, 99, 1), FULL);
            check.due("a thirteenth, too, staff " + staff, heaped.shift(staff, 0, 99, 1), FULL);
        }
    }

    /** "from a TICK to another one (0 .. 99, both count)" */
    private static void shiftsBothTicksCount() {
        int[][] spans = {{0, 0}, {0, 1}, {10, 20}, {50, 50}, {98, 99}, {99, 99}, {0, 99}};
        for (int[] span : spans) {
            StaffHeads x = new StaffHeads(1);
            x.shift(1, span[0], span[1], 1);
            for (int tick = Math.max(0, span[0] - 1); tick <= Math.min(99, span[1] + 1); tick++) {
                int n = add(x, 1, 0, tick, 3, BARE, BLACK);
                boolean within = tick >= span[0] && tick <= span[1];
                check.due("tick " + tick + " of " + span[0] + " to " + span[1], x.of(n, STEP), within ? -4 : 3);
                x.drop(n);
            }
        }
        StaffHeads x = new StaffHeads(1);
        int[][] wrong = {{-1, 5}, {5, 100}, {-1, -1}, {100, 100}, {1, 0}, {99, 98}, {99, 0},
            {LEAST_INT, 5}, {5, GREATEST_INT}, {GREATEST_INT, LEAST_INT}};
        for (int[] span : wrong) {
            check.due("from " + span[0] + " to " + span[1], x.shift(1, span[0], span[1], 1), OUTSIDE);
        }
    }

    /** "by -2 .. 2 octaves" */
    private static void shiftsByOctaves() {
        for (int octaves = -2; octaves <= 2; octaves++) {
            StaffHeads x = new StaffHeads(1);
            add(x, 0, 0, 7, 3, BARE, BLACK);
            check.due("shift by " + octaves, x.shift(0, 7, 7, octaves), 1);
            check.due("the step, shifted by " + octaves, x.of(0, STEP), 3 - 7 * octaves);
        }
        StaffHeads x = new StaffHeads(1);
        for (int octaves : new int[] {-3, 3, LEAST_INT, GREATEST_INT}) {
            check.due("shift by " + octaves, x.shift(0, 7, 7, octaves), OUTSIDE);
        }
    }

    /** "NOTES, 60 at most, numbered from 0 on as they come" */
    private static void notesSixty() {
        StaffHeads spread = new StaffHeads(1);
        StaffHeads heaped = new StaffHeads(1);
        for (int i = 0; i < 60; i++) {
            check.due("note " + i + " of several staves", add(spread, i % 4, i % 3, i, 39 - i, BARE, BLACK), i);
            check.due("note " + i + " of one chord", add(heaped, 1, 1, 1, 4, 0, HALF), i);
        }
        for (int staff = 0; staff < 4; staff++) {
            check.due("a sixty-first on staff " + staff, add(spread, staff, 0, 99, 0, BARE, BLACK), FULL);
            check.due("a sixty-first, too, on staff " + staff, add(heaped, staff, 0, 99, 0, BARE, BLACK), FULL);
        }
        check.due("the first one's number", spread.of(0, STEP), 39);
        check.due("the last one's number", spread.of(59, STEP), -20);
        check.due("no number 60", spread.of(60, STEP), UNKNOWN);
    }

    /** Which of the wrong ones is taken is told by its place among note's arguments. */
    private static void dueRange(String name, int place, int from, int to) {
        for (int good : new int[] {from, to}) {
            StaffHeads x = new StaffHeads(1);
            int[] a = {1, 1, 1, 1, 4, BARE, BLACK};
            a[place] = good;
            check.due(name + " " + good, noteOf(x, a), 0);
        }
        StaffHeads x = new StaffHeads(1);
        for (int wrong : new int[] {from - 1, to + 1, LEAST_INT, GREATEST_INT}) {
            int[] a = {1, 1, 1, 1, 4, BARE, BLACK};
            a[place] = wrong;
            check.due(name + " " + wrong, noteOf(x, a), OUTSIDE);
        }
        check.due(name + ": none came", x.about(0), 0);
    }

    /** "a VOICE (0 .. 2)" */
    private static void voices() {
        dueRange("voice", 1, 0, 2);
        StaffHeads x = new StaffHeads(1);
        for (int voice = 0; voice < 3; voice++) {
            add(x, 0, voice, 0, 4, BARE, BLACK);
        }
        check.due("three voices are three chords", x.at(0, 0, CHORDS), 3);
    }

    /** "a TICK (0 .. 99)" */
    private static void ticks() {
        dueRange("tick", 2, 0, 99);
        StaffHeads x = new StaffHeads(1);
        add(x, 1, 0, 0, 4, BARE, BLACK);
        add(x, 1, 0, 99, 4, BARE, BLACK);
        check.due("the first tick", x.at(1, 0, NOTES), 1);
        check.due("the last tick", x.at(1, 99, NOTES), 1);
        check.due("the last tick of the staff above", x.at(0, 99, NOTES), 0);
        check.due("the first tick of the staff below", x.at(2, 0, NOTES), 0);
        for (int tick : new int[] {-1, 100, LEAST_INT, GREATEST_INT}) {
            check.due("at tick " + tick, x.at(1, tick, NOTES), OUTSIDE);
        }
    }

    /** "a SIGN (-2 .. 2; 3: none)" */
    private static void signs() {
        dueRange("sign", 5, -2, 3);
        for (int sign = -2; sign <= 3; sign++) {
            StaffHeads x = new StaffHeads(1);
            add(x, 0, 0, 0, 4, sign, BLACK);
            check.due("column of sign " + sign, x.of(0, SIGN_COLUMN), sign == 3 ? 0 : 1);
            check.due("greatest column with sign " + sign, x.at(0, 0, SIGNS), sign == 3 ? 0 : 1);
        }
    }

    /** "a HEAD (0 whole, 1 half, 2 black)" */
    private static void heads() {
        dueRange("head", 6, 0, 2);
        for (int head = 0; head <= 2; head++) {
            StaffHeads x = new StaffHeads(1);
            add(x, 0, 0, 0, 3, BARE, head);
            check.due("high with head " + head, x.at(0, 0, HIGH), head == WHOLE ? 8 : 10);
        }
    }

    /** "7 times less what all SHIFTS of its STAFF that have its TICK come to together" */
    private static void stepsByAllShifts() {
        StaffHeads x = new StaffHeads(1);
        add(x, 0, 0, 5, 3, BARE, BLACK);
        x.shift(1, 0, 99, 2);
        check.due("another staff's shift", x.of(0, STEP), 3);
        x.shift(0, 6, 99, 2);
        x.shift(0, 0, 4, 2);
        check.due("shifts of the ticks beside it", x.of(0, STEP), 3);
        x.shift(0, 0, 5, 2);
        x.shift(0, 5, 99, 1);
        check.due("two that meet there", x.of(0, STEP), 3 - 21);
        x.shift(0, 5, 5, -2);
        x.shift(0, 0, 99, -1);
        check.due("as many down as up", x.of(0, STEP), 3);
        for (int way : new int[] {-1, 1}) {
            StaffHeads y = new StaffHeads(1);
            add(y, 0, 0, 5, 3, BARE, BLACK);
            for (int i = 0; i < 12; i++) {
                y.shift(0, 5, 5, 2 * way);
            }
            check.due("twelve by two octaves", y.of(0, STEP), 3 - way * 168);
        }
    }

    /** "0 on LINE 1, 8 on LINE 5" */
    private static void stepsOfLines() {
        StaffHeads x = new StaffHeads(1);
        x.note(0, 0, 0, 2, 4, BARE, BLACK);
        x.note(0, 0, 1, 3, 5, BARE, BLACK);
        check.due("line 1", x.of(0, STEP), 0);
        check.due("line 5", x.of(1, STEP), 8);
    }

    private static void dueLedgers(int what, int[][] rows) {
        for (int[] row : rows) {
            StaffHeads x = new StaffHeads(1);
            add(x, 0, 0, 0, row[0], BARE, BLACK);
            check.due("ledgers (" + what + ") of step " + row[0], x.of(0, what), row[1]);
        }
    }

    /** "below, for a STEP below 0, half of that without its sign (cut)" */
    private static void ledgersBelow() {
        dueLedgers(BELOW, new int[][] {{1, 0}, {0, 0}, {-1, 0}, {-2, 1}, {-3, 1}, {-4, 2}, {-5, 2}, {8, 0}, {12, 0}});
    }

    /** "above, for a STEP above 8, half of that less 8 (cut)" */
    private static void ledgersAbove() {
        dueLedgers(ABOVE, new int[][] {{7, 0}, {8, 0}, {9, 0}, {10, 1}, {11, 1}, {12, 2}, {13, 2}, {0, 0}, {-4, 0}});
    }

    /** Both LEDGERS as far as SHIFTS, CLEFS and pitches go. */
    private static void ledgersFarthest() {
        for (int way : new int[] {-1, 1}) {
            StaffHeads x = new StaffHeads(1);
            x.note(0, 0, 0, way < 0 ? 6 : 0, way < 0 ? 9 : 0, BARE, BLACK);
            x.clef(0, way < 0 ? 2 : 0, way < 0 ? 5 : 1);
            for (int i = 0; i < 12; i++) {
                x.shift(0, 0, 99, 2 * way);
            }
            check.due("farthest step", x.of(0, STEP), way < 0 ? 53 + 168 : -32 - 168);
            check.due("farthest below", x.of(0, BELOW), way < 0 ? 0 : 100);
            check.due("farthest above", x.of(0, ABOVE), way < 0 ? (221 - 8) / 2 : 0);
        }
    }
}
