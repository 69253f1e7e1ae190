import java.util.ArrayList;
import java.util.List;
import java.util.function.ToLongFunction;

/**
 * "Refusals are answers, of several the one told first: UNKNOWN (a number names nothing),
 * OUTSIDE (not as told), FULL. They change nothing."
 *
 * Each refused call is made on an object that has a like; its answer must be the one due,
 * and both must answer the same to all that is asked afterwards.
 */
public final class RefusalsTest extends Terms {
    private static final Check check = new Check("RefusalsTest");
    private static final int[] WILD = {LEAST_INT, GREATEST_INT};

    private enum State { EMPTY, SOME, FULL_OF_BOTH }

    public static void main(String[] args) {
        for (State state : State.values()) {
            unknownStaves(state);
            unknownStavesBeforeOutside(state);
            unknownNotes(state);
            clefOutside(state);
            shiftOutside(state);
            noteOutside(state);
            atOutside(state);
            settingOutside(state);
            aboutOutside(state);
        }
        ofOutside();
        full();
        crowdedThrows();
        manyInARow();
        check.end();
    }

    private static StaffHeads made(State state) {
        StaffHeads x = new StaffHeads(7);
        if (state != State.EMPTY) {
            addSome(x);
        }
        for (int i = 0; state == State.FULL_OF_BOTH && i < 60; i++) {
            add(x, i % 3, i % 2, i % 9, i - 20, i % 6 - 2, i % 3);
            x.shift(i % 3, i % 9, 9, 1 - i % 3);
        }
        return x;
    }

    private static void addSome(StaffHeads x) {
        x.clef(1, 1, 3);
        x.shift(0, 0, 5, 1);
        x.shift(2, 5, 99, -2);
        x.setting(PAD, 3);
        x.setting(LEAST, 9);
        x.hides(true);
        addChord(x, 0, 5, 3, 4, 12);
        addHeads(x, 1, 5, HALF, 4, 11);
        add(x, 1, 2, 5, -3, 1, BLACK);
        add(x, 1, 2, 5, -3, 0, BLACK);
        add(x, 2, 0, 99, 9, -1, WHOLE);
    }

    /** Fewer than 300 calls, so that an object stays below its 512. */
    private static List<Long> answers(StaffHeads x) {
        List<Long> all = new ArrayList<>();
        int count = x.about(0);
        for (int what = 0; what < 3; what++) {
            all.add((long) x.about(what));
        }
        for (int note = 0; note < Math.min(8, count); note++) {
            for (int what = 0; what < 9; what++) {
                all.add((long) x.of(note, what));
            }
            all.add(x.height(note));
            all.add((long) x.shared(0, note));
        }
        for (int staff = 0; staff < 4; staff++) {
            all.add((long) x.gap(staff));
            all.add(x.place(staff));
            all.add((long) crowdedOf(x, staff));
            for (int tick : new int[] {0, 5, 99}) {
                for (int what = 0; what < 5; what++) {
                    all.add((long) x.at(staff, tick, what));
                }
            }
        }
        addAnswersOfChanges(x, all);
        return all;
    }

    private static void addAnswersOfChanges(StaffHeads x, List<Long> all) {
        all.add((long) x.setting(PAD, 50));
        all.add((long) x.setting(LEAST, 0));
        all.add((long) x.hides(false));
        all.add((long) x.shift(0, 0, 99, 0));
        all.add((long) x.plain());
        all.add((long) x.drop(x.about(0) - 1));
        for (int staff = 0; staff < 4; staff++) {
            int n = add(x, staff, 0, 50, 4, BARE, WHOLE);
            all.add((long) n);
            all.add((long) x.of(n, STEP));
            all.add(x.place(staff));
            all.add((long) x.drop(n));
        }
    }

    private static void refused(String name, State state, ToLongFunction<StaffHeads> call, long due) {
        StaffHeads x = made(state);
        check.due(state + ": " + name, call.applyAsLong(x), due);
        check.holds(state + ": " + name + " changes nothing", answers(x).equals(answers(made(state))));
    }

    private static void unknownStaves(State state) {
        for (int s : NO_STAFF) {
            refused("clef of " + s, state, x -> x.clef(s, 2, 5), UNKNOWN);
            refused("shift of " + s, state, x -> x.shift(s, 0, 99, 1), UNKNOWN);
            refused("note on " + s, state, x -> x.note(s, 0, 5, 0, 4, 1, BLACK), UNKNOWN);
            refused("at " + s, state, x -> x.at(s, 5, HIGH), UNKNOWN);
            refused("gap of " + s, state, x -> x.gap(s), UNKNOWN);
            refused("place of " + s, state, x -> x.place(s), UNKNOWN);
            refused("crowded of " + s, state, x -> crowdedOf(x, s), UNKNOWN);
        }
    }

    private static void unknownStavesBeforeOutside(State state) {
        for (int s : NO_STAFF) {
            refused("clef of " + s + ", wrong kind", state, x -> x.clef(s, 3, 5), UNKNOWN);
            refused("clef of " + s + ", wrong line", state, x -> x.clef(s, 2, 0), UNKNOWN);
            refused("shift of " + s + ", wrong from", state, x -> x.shift(s, -1, 99, 1), UNKNOWN);
            refused("shift of " + s + ", wrong to", state, x -> x.shift(s, 0, 100, 1), UNKNOWN);
            refused("shift of " + s + ", from above to", state, x -> x.shift(s, 1, 0, 1), UNKNOWN);
            refused("shift of " + s + ", wrong octaves", state, x -> x.shift(s, 0, 99, 3), UNKNOWN);
            refused("note on " + s + ", all wrong", state, x -> x.note(s, 3, 100, 7, 10, 4, 3), UNKNOWN);
            refused("at " + s + ", wrong tick", state, x -> x.at(s, 100, HIGH), UNKNOWN);
            refused("at " + s + ", wrong what", state, x -> x.at(s, 0, 5), UNKNOWN);
        }
    }

    private static void unknownNotes(State state) {
        int count = made(state).about(0);
        for (int n : new int[] {-1, count, 60, LEAST_INT, GREATEST_INT}) {
            refused("drop of " + n, state, x -> x.drop(n), UNKNOWN);
            refused("of " + n, state, x -> x.of(n, STEP), UNKNOWN);
            refused("of " + n + ", wrong what", state, x -> x.of(n, 9), UNKNOWN);
            refused("height of " + n, state, x -> x.height(n), UNKNOWN);
            refused("shared of " + n + " and 0", state, x -> x.shared(n, 0), UNKNOWN);
            refused("shared of 0 and " + n, state, x -> x.shared(0, n), UNKNOWN);
            refused("shared of " + n + " twice", state, x -> x.shared(n, n), UNKNOWN);
        }
    }

    private static int[] beyond(int from, int to) {
        return new int[] {from - 1, to + 1, WILD[0], WILD[1]};
    }

    private static void clefOutside(State state) {
        for (int kind : beyond(0, 2)) {
            refused("kind " + kind, state, x -> x.clef(0, kind, 3), OUTSIDE);
        }
        for (int line : beyond(1, 5)) {
            refused("line " + line, state, x -> x.clef(0, 1, line), OUTSIDE);
        }
    }

    private static void shiftOutside(State state) {
        for (int tick : beyond(0, 99)) {
            refused("shift from " + tick, state, x -> x.shift(0, tick, 99, 1), OUTSIDE);
            refused("shift to " + tick, state, x -> x.shift(0, 0, tick, 1), OUTSIDE);
            refused("shift from and to " + tick, state, x -> x.shift(0, tick, tick, 1), OUTSIDE);
        }
        refused("shift from above to", state, x -> x.shift(0, 6, 5, 1), OUTSIDE);
        for (int octaves : beyond(-2, 2)) {
            refused("shift by " + octaves, state, x -> x.shift(0, 0, 99, octaves), OUTSIDE);
        }
    }

    private static void noteOutside(State state) {
        int[][] ranges = {{0, 3}, {0, 2}, {0, 99}, {0, 6}, {0, 9}, {-2, 3}, {0, 2}};
        for (int place = 1; place < ranges.length; place++) {
            for (int wrong : beyond(ranges[place][0], ranges[place][1])) {
                int[] a = {1, 1, 5, 1, 4, 1, BLACK};
                a[place] = wrong;
                refused("note whose argument " + place + " is " + wrong, state, x -> noteOf(x, a), OUTSIDE);
            }
        }
    }

    private static void atOutside(State state) {
        for (int tick : beyond(0, 99)) {
            refused("at tick " + tick, state, x -> x.at(0, tick, HIGH), OUTSIDE);
        }
        for (int what : beyond(0, 4)) {
            refused("at, what " + what, state, x -> x.at(0, 0, what), OUTSIDE);
        }
    }

    private static void settingOutside(State state) {
        for (int what : beyond(0, 1)) {
            refused("setting " + what, state, x -> x.setting(what, 40), OUTSIDE);
        }
        for (int v : beyond(0, 100)) {
            refused("pad " + v, state, x -> x.setting(PAD, v), OUTSIDE);
            refused("least " + v, state, x -> x.setting(LEAST, v), OUTSIDE);
        }
    }

    private static void aboutOutside(State state) {
        for (int what : beyond(0, 2)) {
            refused("about " + what, state, x -> x.about(what), OUTSIDE);
        }
    }

    /** A NOTE must be there, or the call is refused for that first. */
    private static void ofOutside() {
        for (State state : new State[] {State.SOME, State.FULL_OF_BOTH}) {
            for (int what : beyond(0, 8)) {
                refused("of, what " + what, state, x -> x.of(0, what), OUTSIDE);
            }
        }
    }

    /** UNKNOWN and OUTSIDE come before FULL, as the calls above on a full object tell. */
    private static void full() {
        check.due("sixty notes", made(State.FULL_OF_BOTH).about(0), 60);
        check.due("twelve shifts", made(State.FULL_OF_BOTH).about(1), 12);
        for (int staff = 0; staff < 4; staff++) {
            int s = staff;
            refused("one note too many on " + s, State.FULL_OF_BOTH, x -> x.note(s, 0, 5, 0, 4, 1, BLACK), FULL);
            refused("one shift too many of " + s, State.FULL_OF_BOTH, x -> x.shift(s, 0, 99, 1), FULL);
        }
    }

    /** Not a refusal, but it changes nothing either. */
    private static void crowdedThrows() {
        refused("crowded of a staff without notes", State.EMPTY, x -> crowdedOf(x, 0), THROWN);
        refused("crowded of a hidden staff", State.SOME, x -> crowdedOf(x, 3), THROWN);
    }

    /** What one refused call leaves as it was, many leave, too. */
    private static void manyInARow() {
        for (State state : State.values()) {
            StaffHeads x = made(state);
            for (int i = 0; i < 12; i++) {
                check.due("note", x.note(0, 0, 0, 0, 0, 0, 3), OUTSIDE);
                check.due("drop", x.drop(60), UNKNOWN);
                check.due("shift", x.shift(0, 1, 0, 0), OUTSIDE);
                check.due("clef", x.clef(0, 0, 6), OUTSIDE);
                check.due("setting", x.setting(PAD, 101), OUTSIDE);
            }
            check.holds("sixty refusals change nothing", answers(x).equals(answers(made(state))));
        }
    }
}
