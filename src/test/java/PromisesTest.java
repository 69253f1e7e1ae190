/** A method for each promise of the document: ordinary inputs, edges, wrong inputs. */
public final class PromisesTest extends Terms {
    private static final Check check = new Check("PromisesTest");

    public static void main(String[] args) {
        promise1NewObject();
        promise2Clef();
        promise3Shift();
        promise3ShiftRefused();
        promise4Plain();
        promise5Note();
        promise6Drop();
        promise7StepsAndLedgers();
        promise7Stems();
        promise7Aside();
        promise7Sixty();
        promise7Moved();
        promise7MovedOfThree();
        promise7Signs();
        promise7EqualSigns();
        promise7Refused();
        promise8Height();
        promise9At();
        promise9HighAndLow();
        promise10Shared();
        promise11Setting();
        promise12Hides();
        promise13Gap();
        promise14Place();
        promise15Crowded();
        promise16About();
        check.end();
    }

    private static void promise1NewObject() {
        int[][] units = {{1, 1}, {7, 7}, {65536, 65536}, {0, 10}, {-1, 10}, {65537, 10},
            {Integer.MIN_VALUE, 10}, {Integer.MAX_VALUE, 10}};
        for (int[] unit : units) {
            check.due("unit " + unit[0], new StaffHeads(unit[0]).place(1), 14L * unit[1]);
        }
        StaffHeads x = new StaffHeads(1);
        check.due("new: notes", x.about(0), 0);
        check.due("new: shifts", x.about(1), 0);
        check.due("new: staves", x.about(2), 4);
        check.due("new: hiding", x.hides(false), 0);
        check.due("new: pad", x.setting(0, 2), 2);
        check.due("new: least", x.setting(1, 6), 6);
        for (int staff = 0; staff < 4; staff++) {
            int n = x.note(staff, 0, 0, 4, 4, BARE, BLACK);
            check.due("new: clef of " + staff, x.of(n, STEP), 2);
        }
    }

    private static void promise2Clef() {
        StaffHeads x = new StaffHeads(1);
        int mine = x.note(2, 0, 0, 4, 4, BARE, BLACK);
        int other = x.note(1, 0, 0, 4, 4, BARE, BLACK);
        int[] onLineOne = {0, 4, 8};
        for (int kind = 0; kind < 3; kind++) {
            for (int line = 1; line <= 5; line++) {
                check.due("clef", x.clef(2, kind, line), 1);
                check.due("clef " + kind + " on " + line, x.of(mine, STEP), onLineOne[kind] + 2 * line - 2);
                check.due("another staff's clef", x.of(other, STEP), 2);
            }
        }
        x.clef(2, 1, 3);
        int[][] outside = {{-1, 3}, {3, 3}, {0, 0}, {0, 6}, {Integer.MAX_VALUE, 3}, {0, Integer.MIN_VALUE}};
        for (int[] o : outside) {
            check.due("clef outside", x.clef(2, o[0], o[1]), OUTSIDE);
        }
        for (int staff : NO_STAFF) {
            check.due("clef of " + staff, x.clef(staff, 9, 9), UNKNOWN);
        }
        check.due("refused clefs change nothing", x.of(mine, STEP), 8);
    }

    private static void promise3Shift() {
        StaffHeads x = new StaffHeads(1);
        for (int tick : new int[] {0, 4, 5, 6, 7, 8, 99}) {
            add(x, 0, 0, tick, 3, BARE, BLACK);
        }
        int other = add(x, 3, 0, 6, 3, BARE, BLACK);
        check.due("first shift", x.shift(0, 5, 7, 1), 1);
        check.dueOf("octave up", x, STEP, 0, 3, 3, -4, -4, -4, 3, 3);
        check.due("second shift", x.shift(0, 7, 99, 2), 2);
        check.dueOf("two shifts", x, STEP, 0, 3, 3, -4, -4, -18, -11, -11);
        check.due("third shift", x.shift(0, 0, 99, -2), 3);
        check.dueOf("three shifts", x, STEP, 0, 17, 17, 10, 10, -4, 3, 3);
        check.due("shift of one tick", x.shift(0, 4, 4, -1), 4);
        check.dueOf("four shifts", x, STEP, 0, 17, 24, 10, 10, -4, 3, 3);
        check.due("shift by none", x.shift(0, 0, 99, 0), 5);
        check.dueOf("five shifts", x, STEP, 0, 17, 24, 10, 10, -4, 3, 3);
        check.due("another staff's step", x.of(other, STEP), 3);
        check.due("how many", x.about(1), 5);
    }

    private static void promise3ShiftRefused() {
        StaffHeads x = new StaffHeads(1);
        int n = add(x, 0, 0, 5, 3, BARE, BLACK);
        int[][] outside = {{-1, 5, 1}, {5, 100, 1}, {100, 100, 1}, {-1, -1, 1}, {6, 5, 1}, {5, 5, 3}, {5, 5, -3},
            {Integer.MIN_VALUE, 99, 1}, {0, Integer.MAX_VALUE, 1}, {0, 99, Integer.MIN_VALUE}};
        for (int[] o : outside) {
            check.due("shift outside", x.shift(0, o[0], o[1], o[2]), OUTSIDE);
        }
        for (int staff : NO_STAFF) {
            check.due("shift of " + staff, x.shift(staff, 9, 8, 7), UNKNOWN);
        }
        check.due("no shift came", x.about(1), 0);
        for (int i = 1; i <= 12; i++) {
            check.due("shift " + i, x.shift(i % 4, 5, 5, 1), i);
        }
        check.due("one shift too many", x.shift(0, 5, 5, 1), FULL);
        check.due("outside before full", x.shift(0, 6, 5, 1), OUTSIDE);
        check.due("unknown before full", x.shift(4, 5, 5, 1), UNKNOWN);
        check.due("full changes nothing", x.of(n, STEP), 3 - 21);
        check.due("twelve", x.about(1), 12);
    }

    private static void promise4Plain() {
        StaffHeads x = new StaffHeads(1);
        check.due("plain without shifts", x.plain(), 0);
        int n = add(x, 0, 0, 5, 3, BARE, BLACK);
        x.shift(0, 0, 99, 2);
        x.shift(1, 0, 99, 2);
        check.due("shifted", x.of(n, STEP), -11);
        check.due("plain", x.plain(), 2);
        check.due("plain again", x.plain(), 0);
        check.due("shifts left", x.about(1), 0);
        check.due("no longer shifted", x.of(n, STEP), 3);
        check.due("first shift again", x.shift(0, 5, 5, 1), 1);
        check.due("shifted again", x.of(n, STEP), -4);
    }

    private static void promise5Note() {
        StaffHeads x = new StaffHeads(1);
        int[] good = {0, 0, 0, 0, 0, -2, 0};
        int[] last = {3, 2, 99, 6, 9, 3, 2};
        check.due("least values", noteOf(x, good), 0);
        check.due("greatest values", noteOf(x, last), 1);
        check.due("least pitch", x.of(0, STEP), -30);
        check.due("greatest pitch", x.of(1, STEP), 39);
        for (int i = 1; i < 7; i++) {
            for (int wrong : new int[] {good[i] - 1, last[i] + 1, Integer.MIN_VALUE, Integer.MAX_VALUE}) {
                int[] a = good.clone();
                a[i] = wrong;
                check.due("argument " + i + " is " + wrong, noteOf(x, a), OUTSIDE);
            }
        }
        for (int staff : NO_STAFF) {
            check.due("note of " + staff, x.note(staff, 9, 999, 9, 99, 9, 9), UNKNOWN);
        }
        check.due("refused notes do not come", x.about(0), 2);
        for (int i = 2; i < 60; i++) {
            check.due("note " + i, x.note(i % 4, i % 3, i, i % 7, 4, i % 4, i % 3), i);
        }
        check.due("one note too many", noteOf(x, good), FULL);
        check.due("outside before full", x.note(0, 3, 0, 0, 0, 0, 0), OUTSIDE);
        check.due("unknown before full", x.note(4, 0, 0, 0, 0, 0, 0), UNKNOWN);
        check.due("sixty", x.about(0), 60);
    }

    private static void promise6Drop() {
        StaffHeads x = new StaffHeads(1);
        check.due("drop of none", x.drop(0), UNKNOWN);
        addChord(x, 0, 0, 0, 3, 6);
        add(x, 1, 2, 7, 9, 1, HALF);
        check.due("drop", x.drop(1), 3);
        check.dueOf("numbers close up", x, STEP, 0, 0, 6, 9);
        check.dueOf("the chord is smaller", x, SIZE, 0, 2, 2, 1);
        check.due("what moved down kept its sign", x.of(2, SIGN_COLUMN), 1);
        check.due("what moved down kept its place", x.at(1, 7, NOTES), 1);
        for (int wrong : new int[] {-1, 3, 60, Integer.MIN_VALUE, Integer.MAX_VALUE}) {
            check.due("drop of " + wrong, x.drop(wrong), UNKNOWN);
        }
        check.due("refused drops change nothing", x.about(0), 3);
        check.due("drop of the last", x.drop(2), 2);
        check.due("of one that went", x.of(2, STEP), UNKNOWN);
        check.due("its tick is empty", x.at(1, 7, NOTES), 0);
        check.due("next number", add(x, 0, 0, 0, 1, BARE, BLACK), 2);
        StaffHeads full = new StaffHeads(1);
        for (int i = 0; i < 60; i++) {
            full.note(0, 0, i, i % 7, 4, BARE, BLACK);
        }
        check.due("drop of a full one", full.drop(0), 59);
        check.due("room again", full.note(0, 0, 0, 0, 4, BARE, BLACK), 59);
        check.due("no more room", full.note(0, 0, 0, 0, 4, BARE, BLACK), FULL);
    }

    private static void promise7StepsAndLedgers() {
        int[][] rows = {{-30, 15, 0}, {-4, 2, 0}, {-3, 1, 0}, {-2, 1, 0}, {-1, 0, 0}, {0, 0, 0}, {4, 0, 0},
            {8, 0, 0}, {9, 0, 0}, {10, 0, 1}, {11, 0, 1}, {12, 0, 2}, {39, 0, 15}};
        for (int[] row : rows) {
            StaffHeads x = new StaffHeads(1);
            add(x, 0, 0, 0, row[0], BARE, BLACK);
            check.due("step " + row[0], x.of(0, STEP), row[0]);
            check.due("ledgers below of " + row[0], x.of(0, BELOW), row[1]);
            check.due("ledgers above of " + row[0], x.of(0, ABOVE), row[2]);
        }
    }

    private static void promise7Stems() {
        StaffHeads x = new StaffHeads(1);
        addChord(x, 0, 0, 3);
        addChord(x, 0, 1, 4);
        addChord(x, 2, 2, 5);
        addChord(x, 0, 3, 1, 6);
        addChord(x, 0, 4, 2, 6);
        addChord(x, 0, 5, 2, 7);
        check.dueOf("stems of lone voices", x, STEM, 0, 1, 0, 0, 1, 1, 0, 0, 0, 0);
        StaffHeads y = new StaffHeads(1);
        addChord(y, 2, 0, -5);
        addChord(y, 1, 0, 12);
        check.dueOf("the least voice that is there goes up", y, STEM, 0, 0, 1);
        addChord(y, 0, 0, 20);
        check.dueOf("of three voices one goes up", y, STEM, 0, 0, 0, 1);
        add(y, 0, 0, 1, 20, BARE, BLACK);
        add(y, 1, 1, 1, -5, BARE, BLACK);
        check.dueOf("other ticks and staves do not matter", y, STEM, 3, 0, 1);
        y.drop(2);
        y.drop(1);
        check.dueOf("alone again", y, STEM, 0, 1);
    }

    private static void promise7Aside() {
        StaffHeads x = new StaffHeads(1);
        addChord(x, 0, 0, 2, 0, 1);
        check.dueOf("up, given in no order", x, ASIDE, 0, 0, 0, 1);
        addChord(x, 0, 1, 9, 8, 10, 11, 6);
        check.dueOf("down", x, ASIDE, 3, 0, -1, -1, 0, 0);
        addChord(x, 0, 2, -1, -1, -1, 0);
        check.dueOf("equal steps, up", x, ASIDE, 8, 0, 1, 0, 1);
        addChord(x, 0, 3, 9, 10, 10, 10);
        check.dueOf("equal steps, down", x, ASIDE, 12, -1, 0, -1, 0);
        addChord(x, 0, 4, 0, 2, 4);
        check.dueOf("thirds", x, ASIDE, 16, 0, 0, 0);
        check.dueOf("sizes", x, SIZE, 0, 3, 3, 3, 5, 5, 5, 5, 5, 4);
        check.dueOf("columns", x, COLUMN, 3, 0, -1, -1, 0, 0);
        addChord(x, 0, 5, 0, 0);
        addChord(x, 0, 6, 9, 9);
        check.dueOf("of two equal ones the second is aside", x, ASIDE, 19, 0, 1, 0, -1);
        StaffHeads y = new StaffHeads(1);
        addChord(y, 0, 0, 1, 0);
        check.dueOf("the first, being above", y, ASIDE, 0, 1, 0);
        y.drop(1);
        check.dueOf("no longer", y, ASIDE, 0, 0);
    }

    private static void promise7Sixty() {
        StaffHeads x = new StaffHeads(1);
        for (int i = 0; i < 60; i++) {
            x.note(3, 2, 99, i % 7, i / 7, i % 5 - 2, BLACK);
        }
        for (int i = 0; i < 60; i++) {
            check.due("sixty: step of " + i, x.of(i, STEP), i - 30);
            check.due("sixty: size of " + i, x.of(i, SIZE), 60);
            check.due("sixty: aside of " + i, x.of(i, ASIDE), i % 2);
        }
        check.due("sixty: notes", x.at(3, 99, NOTES), 60);
        check.due("sixty: not crowded", x.crowded(3), 0);
    }

    private static void promise7Moved() {
        StaffHeads x = new StaffHeads(1);
        int tick = 0;
        // STEPS of VOICE 0 and 1, what VOICE 1 is MOVED by
        int[][] rows = {{6, 2, 0}, {5, 3, 0}, {5, 4, 1}, {4, 5, 1}, {3, 5, 0}};
        for (int[] row : rows) {
            addChord(x, 0, tick, row[0]);
            addChord(x, 1, tick, row[1]);
            check.due("least voice is not moved", x.of(2 * tick, MOVED), 0);
            check.due("moved: " + row[0] + " and " + row[1], x.of(2 * tick + 1, MOVED), row[2]);
            check.due("column", x.of(2 * tick + 1, COLUMN), row[2]);
            tick++;
        }
        StaffHeads y = new StaffHeads(1);
        addChord(y, 0, 0, 0, 1);
        addHeads(y, 1, 0, HALF, 1);
        check.dueOf("past a head to the right", y, MOVED, 0, 0, 0, 2);
        addChord(y, 0, 1, 1, 2);
        addHeads(y, 1, 1, HALF, 1, 2);
        check.dueOf("own head to the left", y, ASIDE, 3, 0, 1, -1, 0);
        check.dueOf("moved past with it", y, MOVED, 3, 0, 0, 3, 3);
        check.dueOf("its columns", y, COLUMN, 3, 0, 1, 2, 3);
        addChord(y, 1, 2, 3);
        addChord(y, 2, 2, 3);
        check.dueOf("voices 1 and 2 share", y, MOVED, 7, 0, 0);
        add(y, 0, 0, 3, 3, BARE, HALF);
        add(y, 0, 1, 3, 3, BARE, BLACK);
        add(y, 0, 0, 4, 3, 1, BLACK);
        add(y, 0, 1, 4, 3, 0, BLACK);
        check.dueOf("unlike heads, unlike signs", y, MOVED, 9, 0, 1, 0, 1);
        addChord(y, 0, 5, 0, 1);
        addChord(y, 1, 5, 1);
        check.dueOf("shared with a head to the right", y, MOVED, 13, 0, 0, 1);
    }

    private static void promise7MovedOfThree() {
        StaffHeads x = new StaffHeads(1);
        addChord(x, 0, 0, 4);
        addChord(x, 1, 0, 4);
        addChord(x, 2, 0, 4);
        check.dueOf("two stems down share nothing", x, MOVED, 0, 0, 0, 1);
        addChord(x, 2, 1, 5);
        addChord(x, 1, 1, 5);
        addChord(x, 0, 1, 4);
        check.dueOf("given from the greatest voice on", x, MOVED, 3, 2, 1, 0);
        addChord(x, 0, 2, 8);
        addChord(x, 1, 2, 3);
        addChord(x, 2, 2, 8, 3);
        check.dueOf("one shared, one not", x, MOVED, 6, 0, 0, 1, 1);
        addHeads(x, 0, 3, BLACK, 1, 2);
        addHeads(x, 1, 3, HALF, 1, 2);
        addHeads(x, 2, 3, WHOLE, 1, 2);
        check.dueOf("as far as it goes", x, MOVED, 10, 0, 0, 3, 3, 5, 5);
        check.dueOf("all side by side", x, COLUMN, 10, 0, 1, 2, 3, 4, 5);
    }

    private static void promise7Signs() {
        StaffHeads x = new StaffHeads(1);
        add(x, 0, 0, 0, 0, 1, BLACK);
        add(x, 0, 0, 0, 2, 1, BLACK);
        add(x, 0, 1, 0, 4, BARE, BLACK);
        add(x, 0, 1, 0, 5, -1, BLACK);
        add(x, 0, 2, 0, 7, 0, BLACK);
        check.dueOf("highest, lowest, highest, lowest", x, SIGN_COLUMN, 0, 1, 3, 0, 2, 1);
        check.due("greatest of these", x.at(0, 0, SIGNS), 3);
        add(x, 0, 0, 1, 0, 2, BLACK);
        add(x, 0, 0, 1, 6, 2, BLACK);
        check.dueOf("6 steps are enough", x, SIGN_COLUMN, 5, 1, 1);
        add(x, 0, 0, 2, 0, -2, BLACK);
        add(x, 0, 0, 2, 5, -2, BLACK);
        check.dueOf("5 steps are not", x, SIGN_COLUMN, 7, 2, 1);
        add(x, 1, 0, 2, 5, -2, BLACK);
        add(x, 0, 0, 3, 5, 0, BLACK);
        check.dueOf("other staves and ticks do not matter", x, SIGN_COLUMN, 9, 1, 1);
    }

    private static void promise7EqualSigns() {
        StaffHeads x = new StaffHeads(1);
        add(x, 0, 0, 0, 4, 1, BLACK);
        add(x, 0, 1, 0, 4, 1, BLACK);
        add(x, 0, 2, 0, 4, 0, BLACK);
        check.dueOf("one sign for both", x, SIGN_COLUMN, 0, 1, 1, 2);
        // 8 first, then 0, then of the two at 4 the first; so the second, last one stands further left
        add(x, 0, 0, 1, 4, -1, BLACK);
        add(x, 0, 1, 1, 4, 1, BLACK);
        add(x, 0, 0, 1, 8, 0, BLACK);
        add(x, 0, 1, 1, 0, 0, BLACK);
        check.dueOf("of equal steps the least number", x, SIGN_COLUMN, 3, 2, 3, 1, 1);
        // 5 of one sign takes two turns: then 0 comes before 3, and 3 stands furthest left
        add(x, 0, 0, 2, 5, 1, BLACK);
        add(x, 0, 1, 2, 0, 1, BLACK);
        add(x, 0, 1, 2, 5, 1, BLACK);
        add(x, 0, 1, 2, 3, 1, BLACK);
        add(x, 0, 1, 2, -3, 1, BLACK);
        // turns: 5 (column 1), -3 (8 away: 1), 5 (as the first: 1), 0 (2), 3 (3)
        check.dueOf("a sign that is there already takes a turn", x, SIGN_COLUMN, 7, 1, 2, 1, 3, 1);
        check.due("greatest", x.at(0, 2, SIGNS), 3);
        add(x, 0, 0, 3, 8, 1, BLACK);
        add(x, 0, 1, 3, 0, 1, BLACK);
        add(x, 0, 1, 3, 0, 0, BLACK);
        check.dueOf("of equal lowest ones the least number", x, SIGN_COLUMN, 12, 1, 1, 2);
    }

    private static void promise7Refused() {
        StaffHeads x = new StaffHeads(1);
        check.due("of none", x.of(0, 0), UNKNOWN);
        addChord(x, 0, 0, 3);
        for (int wrong : new int[] {-1, 1, Integer.MIN_VALUE, Integer.MAX_VALUE}) {
            check.due("of " + wrong, x.of(wrong, 0), UNKNOWN);
            check.due("unknown before outside", x.of(wrong, 9), UNKNOWN);
        }
        for (int wrong : new int[] {-1, 9, Integer.MIN_VALUE, Integer.MAX_VALUE}) {
            check.due("of(0, " + wrong + ")", x.of(0, wrong), OUTSIDE);
        }
    }

    private static void promise8Height() {
        StaffHeads x = new StaffHeads(65536);
        check.due("height of none", x.height(0), UNKNOWN);
        add(x, 0, 0, 0, 39, BARE, WHOLE);
        add(x, 0, 0, 1, -30, BARE, WHOLE);
        add(x, 3, 0, 0, 4, BARE, WHOLE);
        check.due("above line 1", x.height(0), 39L * 65536);
        check.due("below line 1", x.height(1), -30L * 65536);
        // gap 32 below staff 0, then 6 and 6, and 8 steps for each staff
        check.due("on staff 3", x.height(2), (4L - 40 - 14 - 14) * 65536);
        x.hides(true);
        check.due("on staff 3, two hidden", x.height(2), (4L - 40) * 65536);
        for (int wrong : new int[] {-1, 3, Integer.MIN_VALUE, Integer.MAX_VALUE}) {
            check.due("height of " + wrong, x.height(wrong), UNKNOWN);
        }
        StaffHeads y = new StaffHeads(0);
        add(y, 1, 0, 0, 5, BARE, BLACK);
        check.due("height in tens", y.height(0), 50 - 140);
    }

    private static void promise9At() {
        StaffHeads x = new StaffHeads(1);
        int[] empty = {8, 0, 0, 0, 0};
        for (int what = 0; what < 5; what++) {
            check.due("at an empty tick " + what, x.at(3, 99, what), empty[what]);
        }
        addChord(x, 0, 5, 0, 2, 4);
        addChord(x, 2, 5, -2);
        add(x, 1, 1, 5, 0, 2, BLACK);
        add(x, 0, 1, 6, 0, 2, BLACK);
        check.due("notes", x.at(0, 5, NOTES), 4);
        check.due("chords", x.at(0, 5, CHORDS), 2);
        check.due("no signs", x.at(0, 5, SIGNS), 0);
        check.due("notes of another staff", x.at(1, 5, NOTES), 1);
        check.due("signs of another staff", x.at(1, 5, SIGNS), 1);
        check.due("notes of another tick", x.at(0, 6, NOTES), 1);
        for (int staff : NO_STAFF) {
            check.due("at staff " + staff, x.at(staff, 100, 5), UNKNOWN);
        }
        int[][] outside = {{-1, 0}, {100, 0}, {0, -1}, {0, 5}, {Integer.MIN_VALUE, 0}, {0, Integer.MAX_VALUE}};
        for (int[] o : outside) {
            check.due("at outside", x.at(0, o[0], o[1]), OUTSIDE);
        }
    }

    private static void promise9HighAndLow() {
        // STEP, HEAD, HIGH, LOW of a lone NOTE
        int[][] rows = {{3, BLACK, 10, 0}, {1, HALF, 8, 0}, {0, BLACK, 8, 0}, {2, HALF, 9, 0}, {-9, BLACK, 8, -9},
            {3, WHOLE, 8, 0}, {4, BLACK, 8, -3}, {4, WHOLE, 8, 0}, {8, HALF, 8, 0}, {6, BLACK, 8, -1},
            {12, BLACK, 12, 0}, {12, WHOLE, 12, 0}, {-6, WHOLE, 8, -6}};
        for (int[] row : rows) {
            StaffHeads x = new StaffHeads(1);
            add(x, 1, 1, 50, row[0], BARE, row[1]);
            check.due("high of step " + row[0], x.at(1, 50, HIGH), row[2]);
            check.due("low of step " + row[0], x.at(1, 50, LOW), row[3]);
            check.due("high elsewhere", x.at(1, 49, HIGH), 8);
            check.due("low elsewhere", x.at(0, 50, LOW), 0);
        }
        StaffHeads y = new StaffHeads(1);
        addChord(y, 0, 0, 2, 12);
        addChord(y, 1, 0, -1, 6);
        check.due("high of two voices", y.at(0, 0, HIGH), 19);
        check.due("low of two voices", y.at(0, 0, LOW), -8);
        add(y, 0, 0, 1, 12, BARE, WHOLE);
        add(y, 0, 1, 1, -1, BARE, WHOLE);
        check.due("high of whole heads", y.at(0, 1, HIGH), 12);
        check.due("low of whole heads", y.at(0, 1, LOW), -1);
        add(y, 0, 0, 1, 2, BARE, HALF);
        add(y, 0, 1, 1, 6, BARE, HALF);
        check.due("high, not only whole heads", y.at(0, 1, HIGH), 19);
        check.due("low, not only whole heads", y.at(0, 1, LOW), -8);
        addChord(y, 0, 2, 4);
        check.due("voices of other ticks do not reach here: high", y.at(0, 2, HIGH), 8);
        addChord(y, 0, 3, 0);
        check.due("voices of other ticks do not reach here: low", y.at(0, 3, LOW), 0);
        y.shift(0, 1, 1, 1);
        check.due("high, shifted", y.at(0, 1, HIGH), 12);
        check.due("low, shifted", y.at(0, 1, LOW), -15);
    }

    private static void promise10Shared() {
        StaffHeads x = new StaffHeads(1);
        check.due("shared of none", x.shared(0, 0), UNKNOWN);
        add(x, 0, 0, 0, 3, BARE, HALF);
        add(x, 0, 1, 0, 3, BARE, HALF);
        add(x, 0, 1, 0, 5, BARE, HALF);
        add(x, 0, 2, 0, 3, BARE, HALF);
        add(x, 0, 2, 0, 3, 1, HALF);
        add(x, 0, 2, 0, 3, BARE, BLACK);
        int[] withFirst = {0, 1, 0, 1, 0, 0};
        for (int i = 0; i < withFirst.length; i++) {
            check.due("shared(0, " + i + ")", x.shared(0, i), withFirst[i]);
            check.due("shared(" + i + ", 0)", x.shared(i, 0), withFirst[i]);
        }
        check.due("both stems down", x.shared(1, 3), 0);
        for (int wrong : new int[] {-1, 6, Integer.MIN_VALUE, Integer.MAX_VALUE}) {
            check.due("shared(0, " + wrong + ")", x.shared(0, wrong), UNKNOWN);
            check.due("shared(" + wrong + ", 0)", x.shared(wrong, 0), UNKNOWN);
        }
        add(x, 0, 0, 1, 3, BARE, HALF);
        add(x, 1, 0, 0, 3, BARE, HALF);
        check.due("not at unlike ticks", x.shared(1, 6), 0);
        check.due("not on unlike staves", x.shared(1, 7), 0);
    }

    private static void promise11Setting() {
        StaffHeads x = new StaffHeads(1);
        check.due("pad was", x.setting(0, 100), 2);
        check.due("least was", x.setting(1, 0), 6);
        check.due("gap by pad", x.gap(1), 100);
        check.due("pad was", x.setting(0, 0), 100);
        check.due("gap of nothing", x.gap(1), 0);
        check.due("least was", x.setting(1, 100), 0);
        check.due("gap by least", x.gap(1), 100);
        int[][] outside = {{-1, 5}, {2, 5}, {0, -1}, {0, 101}, {1, -1}, {1, 101},
            {Integer.MIN_VALUE, 0}, {Integer.MAX_VALUE, 0}, {0, Integer.MIN_VALUE}, {1, Integer.MAX_VALUE}};
        for (int[] o : outside) {
            check.due("setting outside", x.setting(o[0], o[1]), OUTSIDE);
        }
        check.due("pad is as it was", x.setting(0, 1), 0);
        check.due("least is as it was", x.setting(1, 1), 100);
    }

    private static void promise12Hides() {
        StaffHeads x = new StaffHeads(1);
        check.due("off at first", x.hides(true), 0);
        check.due("was on", x.hides(true), 1);
        check.due("hidden", x.about(2), 1);
        check.due("was on", x.hides(false), 1);
        check.due("was off", x.hides(false), 0);
        check.due("shown", x.about(2), 4);
    }

    private static void promise13Gap() {
        StaffHeads x = new StaffHeads(1);
        add(x, 0, 0, 10, 4, BARE, BLACK);   // LOW -3
        add(x, 0, 0, 11, -6, BARE, WHOLE);  // LOW -6
        add(x, 2, 0, 10, 12, BARE, BLACK);  // HIGH 12
        add(x, 2, 0, 99, -20, BARE, BLACK); // LOW -20
        check.due("above staff 0", x.gap(0), NONE);
        check.due("below staff 0", x.gap(1), 8);
        check.due("above staff 2", x.gap(2), 6);
        check.due("below staff 2", x.gap(3), 22);
        x.hides(true);
        check.due("hidden", x.gap(1), NONE);
        check.due("the greatest of single ticks", x.gap(2), 9);
        check.due("hidden, too", x.gap(3), NONE);
        check.due("staff 0 is never hidden", x.gap(0), NONE);
        add(x, 3, 0, 99, 10, BARE, WHOLE);
        check.due("sum at the last tick", x.gap(3), 24);
        x.setting(0, 0);
        check.due("without pad", x.gap(3), 22);
        x.setting(1, 30);
        check.due("at least", x.gap(3), 30);
        for (int staff : NO_STAFF) {
            check.due("gap of " + staff, x.gap(staff), UNKNOWN);
        }
    }

    private static void promise14Place() {
        StaffHeads x = new StaffHeads(65536);
        check.due("staff 0", x.place(0), 0);
        check.due("staff 3", x.place(3), 42L * 65536);
        add(x, 0, 0, 0, -30, BARE, BLACK);
        add(x, 2, 0, 0, 39, BARE, BLACK);
        check.due("staff 1", x.place(1), 40L * 65536);
        check.due("staff 2", x.place(2), (40L + 33 + 8) * 65536);
        check.due("staff 3, too", x.place(3), (40L + 33 + 8 + 14) * 65536);
        x.hides(true);
        check.due("staff 0 with hiding", x.place(0), 0);
        check.due("staff 1 is hidden", x.place(1), NONE);
        check.due("staff 2 below staff 0", x.place(2), (30L + 31 + 2 + 8) * 65536);
        check.due("staff 3 is hidden", x.place(3), NONE);
        x.drop(1);
        check.due("its last note went", x.place(2), NONE);
        x.drop(0);
        add(x, 3, 0, 0, 0, BARE, BLACK);
        check.due("its first note came", x.place(3), 14L * 65536);
        x.drop(0);
        check.due("staff 0 without notes", x.place(0), 0);
        check.due("staff 2 without notes", x.place(2), NONE);
        x.setting(0, 100);
        x.hides(false);
        for (int tick = 0; tick < 6; tick++) {
            x.shift(0, 0, 99, 2);
            x.shift(1, 0, 99, -2);
        }
        add(x, 0, 0, 0, -30, BARE, WHOLE);
        add(x, 1, 0, 0, 39, BARE, WHOLE);
        check.due("as far as it goes", x.place(1), (30L + 84 + 39 + 84 - 8 + 100 + 8) * 65536);
        for (int staff : NO_STAFF) {
            check.due("place of " + staff, x.place(staff), UNKNOWN);
        }
    }

    private static void promise15Crowded() {
        StaffHeads x = new StaffHeads(1);
        dueNoNotes("a new one", x, 0);
        addChord(x, 0, 0, 3);
        check.due("none moved", x.crowded(0), 0);
        dueNoNotes("another staff", x, 1);
        addChord(x, 1, 0, 4);
        check.due("all moved", x.crowded(0), 1000);
        addChord(x, 0, 99, 3);
        check.due("a half", x.crowded(0), 500);
        addChord(x, 1, 50, 3, 4);
        check.due("a third, cut", x.crowded(0), 333);
        addChord(x, 1, 99, 4);
        check.due("two thirds, cut", x.crowded(0), 666);
        addChord(x, 2, 99, 4);
        check.due("two chords of one tick count once", x.crowded(0), 666);
        add(x, 3, 0, 0, 4, BARE, BLACK);
        check.due("each staff for itself", x.crowded(3), 0);
        for (int staff : NO_STAFF) {
            check.due("crowded of " + staff, x.crowded(staff), UNKNOWN);
        }
        x.drop(x.about(0) - 1);
        dueNoNotes("without notes again", x, 3);
    }

    private static void dueNoNotes(String name, StaffHeads x, int staff) {
        check.due("crowded throws for " + name, crowdedOf(x, staff), THROWN);
    }

    private static void promise16About() {
        StaffHeads x = new StaffHeads(1);
        add(x, 2, 0, 0, 0, BARE, BLACK);
        add(x, 2, 0, 1, 0, BARE, BLACK);
        x.shift(0, 0, 0, 0);
        check.due("notes", x.about(0), 2);
        check.due("shifts", x.about(1), 1);
        check.due("staves", x.about(2), 4);
        x.hides(true);
        check.due("staves that are not hidden", x.about(2), 2);
        add(x, 0, 0, 1, 0, BARE, BLACK);
        check.due("staff 0 counts once", x.about(2), 2);
        add(x, 3, 0, 1, 0, BARE, BLACK);
        check.due("one more", x.about(2), 3);
        for (int wrong : new int[] {-1, 3, Integer.MIN_VALUE, Integer.MAX_VALUE}) {
            check.due("about(" + wrong + ")", x.about(wrong), OUTSIDE);
        }
    }
}
