/**
 * The edges that the promises name, a method for each sentence; it stands above its method.
 * Ranges of arguments are the terms' (StaffEdgesTest), the order of refusals is RefusalsTest's.
 */
public final class PromiseEdgesTest extends Terms {
    private static final Check check = new Check("PromiseEdgesTest");

    public static void main(String[] args) {
        newObjectIsEmpty();
        newObjectsUnit();
        clefAnswersOne();
        shiftAnswersHowMany();
        shiftFromAboveTo();
        plainAnswersHowMany();
        noteAnswersItsNumber();
        dropOfFirstMiddleLast();
        dropToNone();
        dropLeavesNothing();
        dropFromFull();
        ofWhats();
        ofSignWithout();
        heightAboveLineOne();
        atWhats();
        atSignsWithout();
        sharedOfOneAndTheSame();
        sharedOfUnknown();
        settingRange();
        hidesAnswersWhatWas();
        gapNone();
        placeNone();
        crowdedCut();
        crowdedWithoutNotes();
        aboutWhats();
        aboutStavesNotHidden();
        lastOfAllCalls();
        check.end();
    }

    /** Promise 1: "No NOTES, no SHIFTS" */
    private static void newObjectIsEmpty() {
        StaffHeads x = new StaffHeads(1);
        check.due("new: notes", x.about(0), 0);
        check.due("new: shifts", x.about(1), 0);
        check.due("new: no note 0", x.of(0, STEP), UNKNOWN);
        check.due("new: the first note's number", add(x, 0, 0, 0, 4, BARE, BLACK), 0);
        check.due("new: the first shift", x.shift(0, 0, 0, 0), 1);
        StaffHeads y = new StaffHeads(1);
        check.due("another one has nothing of the first: notes", y.about(0), 0);
        check.due("another one has nothing of the first: shifts", y.about(1), 0);
        check.due("another one has nothing of the first: tick", y.at(0, 0, NOTES), 0);
    }

    /** Promise 1: "UNIT (1 .. 65536; 10 for any other number)" */
    private static void newObjectsUnit() {
        int[][] rows = {{LEAST_INT, 10}, {-65536, 10}, {-1, 10}, {0, 10}, {1, 1}, {2, 2}, {10, 10}, {65535, 65535},
            {65536, 65536}, {65537, 10}, {GREATEST_INT, 10}};
        for (int[] row : rows) {
            StaffHeads x = new StaffHeads(row[0]);
            add(x, 0, 0, 0, 1, BARE, BLACK);
            check.due("unit " + row[0], x.height(0), row[1]);
        }
    }

    /** Promise 2: "A STAFF has another CLEF: 1" */
    private static void clefAnswersOne() {
        StaffHeads x = new StaffHeads(1);
        check.due("the clef that it has", x.clef(0, 0, 2), 1);
        for (int staff = 0; staff < 4; staff++) {
            check.due("another one", x.clef(staff, 2, 4), 1);
            check.due("the same again", x.clef(staff, 2, 4), 1);
        }
        // letter 3, octave 3 on LINE 4
        check.due("a note that came later", x.note(3, 0, 0, 3, 3, BARE, BLACK), 0);
        check.due("has the step of the new clef", x.of(0, STEP), 6);
    }

    /** Promise 3: "A SHIFT comes: how many there are" */
    private static void shiftAnswersHowMany() {
        StaffHeads x = new StaffHeads(1);
        check.due("the first", x.shift(3, 99, 99, -2), 1);
        check.due("the same again is another one", x.shift(3, 99, 99, -2), 2);
        check.due("of another staff", x.shift(0, 0, 0, 2), 3);
        add(x, 3, 0, 99, 0, BARE, BLACK);
        check.due("both count", x.of(0, STEP), 28);
    }

    /** Promise 3: "OUTSIDE (also from above to)" */
    private static void shiftFromAboveTo() {
        StaffHeads x = new StaffHeads(1);
        check.due("from one above to", x.shift(0, 51, 50, 1), OUTSIDE);
        check.due("from as to", x.shift(0, 50, 50, 1), 1);
        check.due("from one below to", x.shift(0, 50, 51, 1), 2);
        check.due("from the last to the first", x.shift(0, 99, 0, 1), OUTSIDE);
        check.due("from the first to the last", x.shift(0, 0, 99, 1), 3);
    }

    /** Promise 4: "There are no SHIFTS: how many there were" */
    private static void plainAnswersHowMany() {
        StaffHeads x = new StaffHeads(1);
        check.due("of none", x.plain(), 0);
        x.shift(0, 0, 0, 1);
        check.due("of one", x.plain(), 1);
        check.due("of none again", x.plain(), 0);
        add(x, 0, 0, 0, 3, BARE, BLACK);
        for (int round = 0; round < 2; round++) {
            for (int i = 1; i <= 12; i++) {
                check.due("shift " + i, x.shift(0, 0, 0, 2), i);
            }
            check.due("full", x.shift(0, 0, 0, 2), FULL);
            check.due("shifted", x.of(0, STEP), 3 - 168);
            check.due("of twelve", x.plain(), 12);
            check.due("how many are left", x.about(1), 0);
            check.due("not shifted", x.of(0, STEP), 3);
        }
        check.due("notes stay", x.about(0), 1);
    }

    /** Promise 5: "A NOTE comes: its number" */
    private static void noteAnswersItsNumber() {
        StaffHeads x = new StaffHeads(1);
        check.due("the first", add(x, 3, 2, 99, 4, 2, WHOLE), 0);
        check.due("the same again is another one", add(x, 3, 2, 99, 4, 2, WHOLE), 1);
        check.due("on another staff", add(x, 0, 0, 0, 4, 2, WHOLE), 2);
        x.drop(0);
        check.due("after a drop", add(x, 0, 0, 0, 4, 2, WHOLE), 2);
    }

    /** Promise 6: "A NOTE goes, those behind it have a number less: how many there are" */
    private static void dropOfFirstMiddleLast() {
        int[][] left = {{1, 2, 3, 4}, {0, 2, 3, 4}, {0, 1, 3, 4}, {0, 1, 2, 4}, {0, 1, 2, 3}};
        for (int gone = 0; gone < 5; gone++) {
            StaffHeads x = new StaffHeads(1);
            for (int i = 0; i < 5; i++) {
                // Each of the five differs from the others in all that can be asked back.
                add(x, i % 4, i % 3, i, 2 * i, i == 2 ? BARE : i % 3, i == 4 ? WHOLE : HALF);
            }
            check.due("drop(" + gone + ")", x.drop(gone), 4);
            for (int i = 0; i < 4; i++) {
                int was = left[gone][i];
                String name = "drop(" + gone + "), then " + i;
                check.due(name + ": step", x.of(i, STEP), 2 * was);
                check.due(name + ": sign", x.of(i, SIGN_COLUMN), was == 2 ? 0 : 1);
                check.due(name + ": its place", x.at(was % 4, was, NOTES), 1);
                check.due(name + ": its head", x.at(was % 4, was, LOW), was == 2 || was == 3 ? 2 * was - 7 : 0);
            }
            check.due("drop(" + gone + "): no number 4", x.of(4, STEP), UNKNOWN);
            check.due("drop(" + gone + "): its place", x.at(gone % 4, gone, NOTES), 0);
        }
    }

    /** Promise 6, the last one: "how many there are" is 0, and then no number names one: "UNKNOWN" */
    private static void dropToNone() {
        StaffHeads x = new StaffHeads(1);
        check.due("of none", x.drop(0), UNKNOWN);
        add(x, 0, 0, 0, 12, 1, BLACK);
        for (int wrong : new int[] {-1, 1, 59, 60, LEAST_INT, GREATEST_INT}) {
            check.due("drop(" + wrong + ")", x.drop(wrong), UNKNOWN);
        }
        check.due("of the only one", x.drop(0), 0);
        check.due("of the same again", x.drop(0), UNKNOWN);
    }

    /** Promise 6: of a NOTE that went nothing stays behind at its TICK. */
    private static void dropLeavesNothing() {
        StaffHeads x = new StaffHeads(1);
        add(x, 1, 0, 7, 12, 1, BLACK);
        add(x, 1, 1, 7, 12, 0, BLACK);
        add(x, 1, 1, 7, -9, 0, BLACK);
        add(x, 1, 0, 8, 4, BARE, WHOLE);
        dueAt("with notes", x, 19, -16, 3, 2, 2);
        check.due("crowded with them", crowdedOf(x, 1), 500);
        check.due("gap below them", x.gap(2), 18);
        for (int left = 3; left > 0; left--) {
            check.due("drop", x.drop(0), left);
        }
        dueAt("without notes", x, 8, 0, 0, 0, 0);
        check.due("crowded without them", crowdedOf(x, 1), 0);
        check.due("gap where they were", x.gap(2), 6);
        check.due("the one that is left", x.of(0, STEP), 4);
        check.due("its sign", x.of(0, SIGN_COLUMN), 0);
    }

    /** All that at answers of STAFF 1 at TICK 7. */
    private static void dueAt(String name, StaffHeads x, int... wants) {
        for (int what = 0; what < wants.length; what++) {
            check.due(name + ": at(1, 7, " + what + ")", x.at(1, 7, what), wants[what]);
        }
    }

    /** Promise 6 and 5: where one of 60 NOTES goes, one can come. */
    private static void dropFromFull() {
        StaffHeads x = new StaffHeads(1);
        for (int i = 0; i < 60; i++) {
            add(x, 0, 0, i, i - 30, BARE, WHOLE);
        }
        check.due("no drop(60)", x.drop(60), UNKNOWN);
        check.due("the last of sixty", x.drop(59), 59);
        check.due("no drop(59) now", x.drop(59), UNKNOWN);
        check.due("the first of them", x.drop(0), 58);
        check.due("all have a number less", x.of(57, STEP), 58 - 30);
        check.due("one comes", add(x, 1, 0, 0, 0, BARE, BLACK), 58);
        check.due("another comes", add(x, 1, 0, 0, 0, BARE, BLACK), 59);
        check.due("no more", add(x, 1, 0, 0, 0, BARE, BLACK), FULL);
    }

    /** Promise 7: "what = 0 STEP .. 8 how many NOTES its CHORD has. UNKNOWN, OUTSIDE" */
    private static void ofWhats() {
        StaffHeads x = new StaffHeads(1);
        addChord(x, 0, 0, -2);
        add(x, 0, 1, 0, -2, 1, HALF);
        add(x, 0, 1, 0, -3, 1, HALF);
        // STEM down: -2 comes first, -3 is aside to the left; moved by 2 for that.
        int[] wants = {-3, 1, 0, 0, -1, 1, 2, 2, 2};
        for (int what = 0; what < wants.length; what++) {
            check.due("of(2, " + what + ")", x.of(2, what), wants[what]);
        }
        for (int what : new int[] {-1, 9, LEAST_INT, GREATEST_INT}) {
            check.due("of(2, " + what + ")", x.of(2, what), OUTSIDE);
        }
        for (int note : new int[] {-1, 3, 59, 60, LEAST_INT, GREATEST_INT}) {
            for (int what : new int[] {0, 8, -1, 9}) {
                check.due("of(" + note + ", " + what + ")", x.of(note, what), UNKNOWN);
            }
        }
    }

    /** Promise 7: "6 its SIGN's (0 without)" */
    private static void ofSignWithout() {
        StaffHeads x = new StaffHeads(1);
        add(x, 0, 0, 0, 4, BARE, BLACK);
        check.due("without", x.of(0, SIGN_COLUMN), 0);
        add(x, 0, 0, 0, 4, 0, BLACK);
        check.dueOf("beside one with a sign", x, SIGN_COLUMN, 0, 0, 1);
    }

    /** Promise 8: "How far a NOTE lies above LINE 1 of STAFF 0, in UNITS" */
    private static void heightAboveLineOne() {
        StaffHeads x = new StaffHeads(3);
        add(x, 0, 0, 0, 0, BARE, BLACK);
        add(x, 0, 0, 1, -1, BARE, BLACK);
        add(x, 0, 0, 2, 8, BARE, BLACK);
        check.due("on it", x.height(0), 0);
        check.due("below it", x.height(1), -3);
        check.due("above it", x.height(2), 24);
        add(x, 1, 0, 0, 14, BARE, WHOLE);
        // The GAP is 0 + 6 + 2, so that STAFF 1 lies 16 lower.
        check.due("on staff 1", x.height(3), 3 * (14 - 16));
        check.due("as its place says", x.height(3), 3L * x.of(3, STEP) - x.place(1));
        for (int note : new int[] {-1, 4, LEAST_INT, GREATEST_INT}) {
            check.due("height(" + note + ")", x.height(note), UNKNOWN);
        }
    }

    /** Promise 9: "HIGH (what = 0) .. the greatest COLUMN of SIGNS (4 ..). UNKNOWN (staff), OUTSIDE" */
    private static void atWhats() {
        StaffHeads x = new StaffHeads(1);
        add(x, 3, 1, 99, 12, 1, HALF);
        add(x, 3, 2, 99, -5, 1, HALF);
        add(x, 3, 2, 99, -4, 1, HALF);
        int[] wants = {19, -12, 3, 2, 2};
        for (int what = 0; what < wants.length; what++) {
            check.due("at(3, 99, " + what + ")", x.at(3, 99, what), wants[what]);
        }
        for (int what : new int[] {-1, 5, LEAST_INT, GREATEST_INT}) {
            check.due("at(3, 99, " + what + ")", x.at(3, 99, what), OUTSIDE);
        }
        for (int tick : new int[] {-1, 100, LEAST_INT, GREATEST_INT}) {
            check.due("at(3, " + tick + ", 0)", x.at(3, tick, HIGH), OUTSIDE);
        }
    }

    /** Promise 9: "the greatest COLUMN of SIGNS (4; 0 without)" */
    private static void atSignsWithout() {
        StaffHeads x = new StaffHeads(1);
        check.due("without notes", x.at(0, 0, SIGNS), 0);
        add(x, 0, 0, 0, 4, BARE, BLACK);
        check.due("without signs", x.at(0, 0, SIGNS), 0);
        add(x, 0, 0, 0, 4, 0, BLACK);
        check.due("with one", x.at(0, 0, SIGNS), 1);
        x.drop(1);
        check.due("without signs again", x.at(0, 0, SIGNS), 0);
    }

    /** Promise 10: "Whether NOTES a, b are SHARED: 1, 0" for one NOTE alone, and either way round */
    private static void sharedOfOneAndTheSame() {
        StaffHeads x = new StaffHeads(1);
        addChord(x, 0, 0, 4);
        addChord(x, 1, 0, 4);
        check.due("with the other", x.shared(0, 1), 1);
        check.due("the other way round", x.shared(1, 0), 1);
        check.due("with itself, up", x.shared(0, 0), 0);
        check.due("with itself, down", x.shared(1, 1), 0);
    }

    /** Promise 10: "UNKNOWN" */
    private static void sharedOfUnknown() {
        StaffHeads x = new StaffHeads(1);
        check.due("of none", x.shared(0, 0), UNKNOWN);
        addChord(x, 0, 0, 4);
        for (int wrong : new int[] {-1, 1, 60, LEAST_INT, GREATEST_INT}) {
            check.due("shared(0, " + wrong + ")", x.shared(0, wrong), UNKNOWN);
            check.due("shared(" + wrong + ", 0)", x.shared(wrong, 0), UNKNOWN);
            check.due("shared of it with itself", x.shared(wrong, wrong), UNKNOWN);
        }
    }

    /** Promise 11: "PAD (what = 0), LEAST (1) becomes v (0 .. 100): what it was. OUTSIDE" */
    private static void settingRange() {
        for (int what = 0; what < 2; what++) {
            StaffHeads x = new StaffHeads(1);
            int other = 1 - what;
            int first = what == PAD ? 2 : 6;
            check.due("at first", x.setting(what, 0), first);
            check.due("the least", x.setting(what, 100), 0);
            for (int wrong : new int[] {-1, 101, LEAST_INT, GREATEST_INT}) {
                check.due("setting(" + what + ", " + wrong + ")", x.setting(what, wrong), OUTSIDE);
            }
            check.due("the greatest", x.setting(what, 1), 100);
            check.due("the other one is as at first", x.setting(other, 50), other == PAD ? 2 : 6);
            check.due("this one is as it was", x.setting(what, 1), 1);
        }
        StaffHeads x = new StaffHeads(1);
        for (int wrong : new int[] {-1, 2, LEAST_INT, GREATEST_INT}) {
            check.due("setting(" + wrong + ", 5)", x.setting(wrong, 5), OUTSIDE);
        }
    }

    /** Promise 12: "Hiding is on or not: 1 if it was" */
    private static void hidesAnswersWhatWas() {
        boolean[] turns = {false, true, true, false, false, true};
        int[] wants = {0, 0, 1, 1, 0, 0};
        StaffHeads x = new StaffHeads(1);
        for (int i = 0; i < turns.length; i++) {
            check.due("turn " + i, x.hides(turns[i]), wants[i]);
            check.due("turn " + i + ": staves", x.about(2), turns[i] ? 1 : 4);
        }
    }

    /** Promise 13: "NONE: it is HIDDEN, or 0. UNKNOWN" */
    private static void gapNone() {
        StaffHeads x = new StaffHeads(1);
        add(x, 0, 0, 0, 4, BARE, BLACK);
        add(x, 2, 0, 0, 4, BARE, BLACK);
        check.due("staff 0", x.gap(0), NONE);
        check.due("a staff without notes, hiding off", x.gap(1), 6);
        x.hides(true);
        check.due("staff 0, hiding on", x.gap(0), NONE);
        check.due("hidden", x.gap(1), NONE);
        check.due("a staff with notes, hiding on", x.gap(2), 6);
        for (int staff : NO_STAFF) {
            check.due("gap(" + staff + "), hiding on", x.gap(staff), UNKNOWN);
        }
    }

    /** Promise 14: "NONE: it is HIDDEN. UNKNOWN" */
    private static void placeNone() {
        StaffHeads x = new StaffHeads(1);
        add(x, 2, 0, 0, 4, BARE, BLACK);
        check.due("staff 0", x.place(0), 0);
        check.due("a staff without notes, hiding off", x.place(1), 14);
        x.hides(true);
        check.due("staff 0, hiding on", x.place(0), 0);
        check.due("hidden", x.place(1), NONE);
        check.due("a staff with notes, hiding on", x.place(2), 14);
        for (int staff : NO_STAFF) {
            check.due("place(" + staff + "), hiding on", x.place(staff), UNKNOWN);
        }
    }

    /** Promise 15: "Thousandths of all TICKS with NOTES of a STAFF where some CHORD is MOVED, cut" */
    private static void crowdedCut() {
        StaffHeads x = new StaffHeads(1);
        for (int tick = 0; tick < 7; tick++) {
            addChord(x, 0, tick, 4);
        }
        int[] wants = {0, 142, 285, 428, 571, 714, 857, 1000};
        for (int moved = 0; moved <= 7; moved++) {
            check.due(moved + " of 7", crowdedOf(x, 0), wants[moved]);
            addHeads(x, 1, moved, HALF, 4);
        }
        StaffHeads y = new StaffHeads(1);
        for (int tick = 0; tick < 58; tick++) {
            add(y, 3, 0, tick, 4, BARE, BLACK);
        }
        add(y, 3, 0, 99, 4, BARE, BLACK);
        add(y, 3, 1, 99, 4, BARE, HALF);
        check.due("one of 59, at the last tick", crowdedOf(y, 3), 16);
    }

    /** Promise 15: "ArithmeticException: it has no NOTES"; "UNKNOWN" comes before it */
    private static void crowdedWithoutNotes() {
        StaffHeads x = new StaffHeads(1);
        for (int staff = 0; staff < 4; staff++) {
            check.due("crowded(" + staff + ")", crowdedOf(x, staff), THROWN);
        }
        for (int staff : NO_STAFF) {
            check.due("crowded(" + staff + ")", crowdedOf(x, staff), UNKNOWN);
        }
        add(x, 2, 0, 0, 4, BARE, BLACK);
        check.due("one note", crowdedOf(x, 2), 0);
        check.due("a note on the staff below", crowdedOf(x, 1), THROWN);
        check.due("a note on the staff above", crowdedOf(x, 3), THROWN);
        x.hides(true);
        check.due("a hidden one", crowdedOf(x, 1), THROWN);
        x.drop(0);
        check.due("its note went", crowdedOf(x, 2), THROWN);
        check.due("an object that threw goes on", add(x, 2, 0, 0, 4, BARE, BLACK), 0);
    }

    /** Promise 16: "How many: 0 NOTES, 1 SHIFTS .. OUTSIDE" */
    private static void aboutWhats() {
        StaffHeads x = new StaffHeads(1);
        for (int i = 0; i <= 60; i++) {
            check.due(i + " notes", x.about(0), i);
            add(x, 0, 0, 0, 4, BARE, BLACK);
        }
        check.due("still sixty", x.about(0), 60);
        for (int i = 0; i <= 12; i++) {
            check.due(i + " shifts", x.about(1), i);
            x.shift(0, 0, 0, 1);
        }
        check.due("still twelve", x.about(1), 12);
        for (int what : new int[] {-1, 3, LEAST_INT, GREATEST_INT}) {
            check.due("about(" + what + ")", x.about(what), OUTSIDE);
        }
    }

    /** Promise 16: "2 STAVES that are not HIDDEN" */
    private static void aboutStavesNotHidden() {
        StaffHeads x = new StaffHeads(1);
        check.due("hiding off", x.about(2), 4);
        x.hides(true);
        check.due("all but staff 0", x.about(2), 1);
        for (int staff = 0; staff < 4; staff++) {
            add(x, staff, 0, 0, 4, BARE, BLACK);
            add(x, staff, 0, 1, 4, BARE, BLACK);
            check.due("notes down to staff " + staff, x.about(2), staff + 1);
        }
    }

    /** "An object is used for at most 512 calls after it has been made" */
    private static void lastOfAllCalls() {
        StaffHeads x = new StaffHeads(1);
        for (int call = 1; call < 512; call++) {
            int number = call % 2 == 1 ? add(x, 0, call % 3, call % 100, 4, BARE, BLACK) : x.drop(0);
            check.due("call " + call, number, 0);
        }
        check.due("call 512", x.about(0), 1);
    }
}
