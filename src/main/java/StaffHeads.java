import java.util.Arrays;

/**
 * Notes placed on staves, in whole numbers.
 * Words in capitals in the comments are the document's terms.
 */
public final class StaffHeads {
    public static final int NONE = -1000, UNKNOWN = -1001, OUTSIDE = -1002, FULL = -1003;

    private static final int STAVES = 4;
    private static final int LINES = 5;
    private static final int VOICES = 3;
    private static final int TICKS = 100;
    private static final int MOST_NOTES = 60;
    private static final int MOST_SHIFTS = 12;
    private static final int MOST_OCTAVES = 2;
    private static final int MOST_SETTING = 100;
    private static final int MOST_UNIT = 65536;
    private static final int OTHER_UNIT = 10;

    private static final int LETTERS = 7;
    private static final int OCTAVES = 10;
    private static final int LEAST_SIGN = -2;
    private static final int NO_SIGN = 3;
    private static final int WHOLE = 0;
    private static final int BLACK = 2;

    /** STEPS of LINE 5 and LINE 3; LINE 1 has 0. */
    private static final int TOP = 8;
    private static final int MIDDLE = 4;
    private static final int STEM_LENGTH = 7;
    private static final int SIGN_REACH = 6;

    /** Heads take two neighbouring COLUMNS a VOICE, so that 5 is the most that three VOICES need. */
    private static final int MOST_MOVED = 16;

    /** NUMBERS of the pitches that the KINDS of CLEFS put on their LINE. */
    private static final int[] CLEF_NUMBERS = {32, 28, 24};

    private final int unit;
    private final Staves staves = new Staves();
    private final Notes notes = new Notes();
    private final Layout layout = new Layout();
    private int pad = 2;
    private int least = 6;
    private boolean hiding = false;

    public StaffHeads(int unit) {
        this.unit = within(unit, 1, MOST_UNIT) ? unit : OTHER_UNIT;
    }

    public int clef(int staff, int kind, int line) {
        if (!isStaff(staff)) {
            return UNKNOWN;
        }
        if (!within(kind, 0, CLEF_NUMBERS.length - 1) || !within(line, 1, LINES)) {
            return OUTSIDE;
        }
        staves.putClef(staff, kind, line);
        layout.stale = true;
        return 1;
    }

    public int shift(int staff, int from, int to, int octaves) {
        if (!isStaff(staff)) {
            return UNKNOWN;
        }
        if (!isTick(from) || !isTick(to) || from > to || !within(octaves, -MOST_OCTAVES, MOST_OCTAVES)) {
            return OUTSIDE;
        }
        if (staves.shifts >= MOST_SHIFTS) {
            return FULL;
        }
        staves.addShift(staff, from, to, octaves);
        layout.stale = true;
        return staves.shifts;
    }

    public int plain() {
        int before = staves.shifts;
        staves.shifts = 0;
        layout.stale = true;
        return before;
    }

    public int note(int staff, int voice, int tick, int letter, int octave, int sign, int head) {
        if (!isStaff(staff)) {
            return UNKNOWN;
        }
        if (!within(voice, 0, VOICES - 1) || !isTick(tick) || !isPitch(letter, octave)
                || !within(sign, LEAST_SIGN, NO_SIGN) || !within(head, WHOLE, BLACK)) {
            return OUTSIDE;
        }
        if (notes.count >= MOST_NOTES) {
            return FULL;
        }
        notes.add(staff, voice, tick, LETTERS * octave + letter, sign, head);
        layout.stale = true;
        return notes.count - 1;
    }

    public int drop(int note) {
        if (!notes.has(note)) {
            return UNKNOWN;
        }
        notes.remove(note);
        layout.stale = true;
        return notes.count;
    }

    public int of(int note, int what) {
        if (!notes.has(note)) {
            return UNKNOWN;
        }
        layout.refresh(notes, staves);
        int step = layout.step[note];
        switch (what) {
            case 0: return step;
            case 1: return step < 0 ? -step / 2 : 0;
            case 2: return step > TOP ? (step - TOP) / 2 : 0;
            case 3: return layout.stem[note];
            case 4: return layout.aside[note];
            case 5: return layout.moved[note] + layout.aside[note];
            case 6: return layout.signColumn[note];
            case 7: return layout.moved[note];
            case 8: return layout.chordSize[note];
            default: return OUTSIDE;
        }
    }

    public long height(int note) {
        if (!notes.has(note)) {
            return UNKNOWN;
        }
        layout.refresh(notes, staves);
        return (long) unit * (layout.step[note] - stepsDownTo(notes.staff[note]));
    }

    public int at(int staff, int tick, int what) {
        if (!isStaff(staff)) {
            return UNKNOWN;
        }
        if (!isTick(tick)) {
            return OUTSIDE;
        }
        layout.refresh(notes, staves);
        int cell = cellOf(staff, tick);
        switch (what) {
            case 0: return layout.high[cell];
            case 1: return layout.low[cell];
            case 2: return layout.noteCount[cell];
            case 3: return layout.chordCount[cell];
            case 4: return layout.signColumns[cell];
            default: return OUTSIDE;
        }
    }

    public int shared(int a, int b) {
        if (!notes.has(a) || !notes.has(b)) {
            return UNKNOWN;
        }
        layout.refresh(notes, staves);
        // A head can only be SHARED where it stands: on one STAFF, at one TICK.
        return notes.together(a, b) && layout.areShared(notes, a, b) ? 1 : 0;
    }

    public int setting(int what, int v) {
        if (!within(what, 0, 1) || !within(v, 0, MOST_SETTING)) {
            return OUTSIDE;
        }
        int before = what == 0 ? pad : least;
        if (what == 0) {
            pad = v;
        } else {
            least = v;
        }
        return before;
    }

    public int hides(boolean on) {
        int before = hiding ? 1 : 0;
        hiding = on;
        return before;
    }

    public int gap(int staff) {
        if (!isStaff(staff)) {
            return UNKNOWN;
        }
        if (staff == 0 || isHidden(staff)) {
            return NONE;
        }
        layout.refresh(notes, staves);
        return gapBetween(shownAbove(staff), staff);
    }

    public long place(int staff) {
        if (!isStaff(staff)) {
            return UNKNOWN;
        }
        if (isHidden(staff)) {
            return NONE;
        }
        layout.refresh(notes, staves);
        return (long) unit * stepsDownTo(staff);
    }

    public int crowded(int staff) throws ArithmeticException {
        if (!isStaff(staff)) {
            return UNKNOWN;
        }
        layout.refresh(notes, staves);
        int used = 0;
        int moved = 0;
        for (int tick = 0; tick < TICKS; tick++) {
            int cell = cellOf(staff, tick);
            used += layout.noteCount[cell] > 0 ? 1 : 0;
            moved += layout.mostMoved[cell] > 0 ? 1 : 0;
        }
        if (used == 0) {
            throw new ArithmeticException("the staff has no notes");
        }
        return 1000 * moved / used;
    }

    public int about(int what) {
        switch (what) {
            case 0: return notes.count;
            case 1: return staves.shifts;
            case 2: return shownStaves();
            default: return OUTSIDE;
        }
    }

    private static boolean within(int value, int from, int to) {
        return value >= from && value <= to;
    }

    private static boolean isStaff(int staff) {
        return within(staff, 0, STAVES - 1);
    }

    private static boolean isTick(int tick) {
        return within(tick, 0, TICKS - 1);
    }

    private static boolean isPitch(int letter, int octave) {
        return within(letter, 0, LETTERS - 1) && within(octave, 0, OCTAVES - 1);
    }

    /** Where a STAFF and TICK stand in the rows that have one element for each of them. */
    private static int cellOf(int staff, int tick) {
        return staff * TICKS + tick;
    }

    private boolean isHidden(int staff) {
        return hiding && staff != 0 && !notes.anyOn(staff);
    }

    private int shownStaves() {
        int shown = 0;
        for (int staff = 0; staff < STAVES; staff++) {
            shown += isHidden(staff) ? 0 : 1;
        }
        return shown;
    }

    /** The nearest STAFF above that is not HIDDEN; STAFF 0 never is. */
    private int shownAbove(int staff) {
        int above = staff - 1;
        while (above > 0 && isHidden(above)) {
            above--;
        }
        return above;
    }

    private int gapBetween(int upper, int lower) {
        int most = least;
        for (int tick = 0; tick < TICKS; tick++) {
            int below = -layout.low[cellOf(upper, tick)];
            int above = layout.high[cellOf(lower, tick)] - TOP;
            most = Math.max(most, below + above + pad);
        }
        return most;
    }

    /** Steps from LINE 1 of STAFF 0 down to LINE 1 of a STAFF that is not HIDDEN. */
    private int stepsDownTo(int staff) {
        int steps = 0;
        for (int lower = 1; lower <= staff; lower++) {
            if (!isHidden(lower)) {
                steps += gapBetween(shownAbove(lower), lower) + TOP;
            }
        }
        return steps;
    }

    /** The CLEFS and SHIFTS of all STAVES. */
    private static final class Staves {
        /** A CLEF's KIND and LINE matter only by the NUMBER that they give to LINE 1. */
        final int[] lowestLine = new int[STAVES];
        final int[] shiftStaff = new int[MOST_SHIFTS];
        final int[] shiftFrom = new int[MOST_SHIFTS];
        final int[] shiftTo = new int[MOST_SHIFTS];
        final int[] shiftOctaves = new int[MOST_SHIFTS];
        int shifts = 0;

        Staves() {
            for (int staff = 0; staff < STAVES; staff++) {
                putClef(staff, 0, 2);
            }
        }

        void putClef(int staff, int kind, int line) {
            lowestLine[staff] = CLEF_NUMBERS[kind] - 2 * (line - 1);
        }

        void addShift(int staff, int from, int to, int octaves) {
            shiftStaff[shifts] = staff;
            shiftFrom[shifts] = from;
            shiftTo[shifts] = to;
            shiftOctaves[shifts] = octaves;
            shifts++;
        }

        int stepOf(int staff, int tick, int number) {
            int octaves = 0;
            for (int i = 0; i < shifts; i++) {
                if (shiftStaff[i] == staff && within(tick, shiftFrom[i], shiftTo[i])) {
                    octaves += shiftOctaves[i];
                }
            }
            return number - lowestLine[staff] - LETTERS * octaves;
        }
    }

    /** The NOTES as they were given, one element of each row for a NOTE. */
    private static final class Notes {
        final int[] staff = new int[MOST_NOTES];
        final int[] voice = new int[MOST_NOTES];
        final int[] tick = new int[MOST_NOTES];
        final int[] number = new int[MOST_NOTES];
        final int[] sign = new int[MOST_NOTES];
        final int[] head = new int[MOST_NOTES];
        int count = 0;

        boolean has(int note) {
            return within(note, 0, count - 1);
        }

        boolean anyOn(int wanted) {
            for (int i = 0; i < count; i++) {
                if (staff[i] == wanted) {
                    return true;
                }
            }
            return false;
        }

        boolean together(int a, int b) {
            return staff[a] == staff[b] && tick[a] == tick[b];
        }

        void add(int itsStaff, int itsVoice, int itsTick, int itsNumber, int itsSign, int itsHead) {
            staff[count] = itsStaff;
            voice[count] = itsVoice;
            tick[count] = itsTick;
            number[count] = itsNumber;
            sign[count] = itsSign;
            head[count] = itsHead;
            count++;
        }

        void remove(int note) {
            for (int i = note; i + 1 < count; i++) {
                staff[i] = staff[i + 1];
                voice[i] = voice[i + 1];
                tick[i] = tick[i + 1];
                number[i] = number[i + 1];
                sign[i] = sign[i + 1];
                head[i] = head[i + 1];
            }
            count--;
        }
    }

    /** One CHORD while its STAFF and TICK are laid out; used again for the next ones. */
    private static final class Chord {
        final int[] heads = new int[MOST_NOTES];
        int size;
        int lowest;
        int highest;
        boolean onlyWhole;
        boolean up;
        int moved;

        void clear() {
            size = 0;
            onlyWhole = true;
            moved = 0;
        }

        void add(int note, int step, int head) {
            lowest = size == 0 ? step : Math.min(lowest, step);
            highest = size == 0 ? step : Math.max(highest, step);
            onlyWhole = onlyWhole && head == WHOLE;
            heads[size] = note;
            size++;
        }

        boolean liesLow() {
            return highest - MIDDLE < MIDDLE - lowest;
        }

        /** Heads come by numbers, and the sort leaves equal STEPS in that order. */
        void sortFromStemsFarEnd(int[] step) {
            for (int i = 1; i < size; i++) {
                int note = heads[i];
                int k = i;
                while (k > 0 && isBefore(step[note], step[heads[k - 1]])) {
                    heads[k] = heads[k - 1];
                    k--;
                }
                heads[k] = note;
            }
        }

        boolean isBefore(int step, int other) {
            return up ? step < other : step > other;
        }

        void turnHeads(int[] step, int[] aside) {
            boolean turned = false;
            for (int i = 0; i < size; i++) {
                int note = heads[i];
                boolean close = i > 0 && Math.abs(step[note] - step[heads[i - 1]]) <= 1;
                turned = close && !turned;
                aside[note] = turned ? (up ? 1 : -1) : 0;
            }
        }

        int reachUp() {
            return up && !onlyWhole ? Math.max(highest + STEM_LENGTH, MIDDLE) : highest;
        }

        int reachDown() {
            return !up && !onlyWhole ? Math.min(lowest - STEM_LENGTH, MIDDLE) : lowest;
        }
    }

    /** The SIGNS of one STAFF and TICK while they get their COLUMNS; used again for the next ones. */
    private static final class Signs {
        final int[] bearers = new int[MOST_NOTES];
        int size;
        /** By COLUMNS: the turn in which one was last found taken, so that no turn has to clear it. */
        final int[] takenInTurn = new int[MOST_NOTES + 1];

        void clear() {
            size = 0;
        }

        void add(int note) {
            bearers[size] = note;
            size++;
        }

        /** A COLUMN of 0 marks a SIGN as not yet placed; answers the greatest COLUMN. */
        int placeAll(int[] sign, int[] step, int[] column) {
            Arrays.fill(takenInTurn, 0);
            int greatest = 0;
            for (int turn = 1; turn <= size; turn++) {
                int note = outermost(turn % 2 == 1, step, column);
                if (note >= 0) {
                    column[note] = columnFor(note, turn, sign, step, column);
                    greatest = Math.max(greatest, column[note]);
                }
            }
            return greatest;
        }

        /** Of those not yet placed, the highest or the lowest; -1 if none is left. */
        int outermost(boolean highest, int[] step, int[] column) {
            int best = -1;
            for (int i = 0; i < size; i++) {
                int note = bearers[i];
                if (column[note] == 0 && (best < 0
                        || (highest ? step[note] > step[best] : step[note] < step[best]))) {
                    best = note;
                }
            }
            return best;
        }

        int columnFor(int note, int turn, int[] sign, int[] step, int[] column) {
            for (int i = 0; i < size; i++) {
                int other = bearers[i];
                if (column[other] > 0 && step[other] == step[note] && sign[other] == sign[note]) {
                    return column[other];
                }
                if (Math.abs(step[other] - step[note]) < SIGN_REACH) {
                    takenInTurn[column[other]] = turn;
                }
            }
            int free = 1;
            while (free < MOST_NOTES && takenInTurn[free] == turn) {
                free++;
            }
            return free;
        }
    }

    /** What follows from NOTES, CLEFS and SHIFTS, kept till one of these changes. */
    private static final class Layout {
        boolean stale = true;

        /** By NOTES. */
        final int[] step = new int[MOST_NOTES];
        final int[] stem = new int[MOST_NOTES];
        final int[] aside = new int[MOST_NOTES];
        final int[] moved = new int[MOST_NOTES];
        final int[] chordSize = new int[MOST_NOTES];
        final int[] signColumn = new int[MOST_NOTES];

        /** By STAVES and TICKS, as cellOf tells. */
        final int[] high = new int[STAVES * TICKS];
        final int[] low = new int[STAVES * TICKS];
        final int[] noteCount = new int[STAVES * TICKS];
        final int[] chordCount = new int[STAVES * TICKS];
        final int[] signColumns = new int[STAVES * TICKS];
        final int[] mostMoved = new int[STAVES * TICKS];

        /** By VOICES; a CHORD without heads is none. */
        final Chord[] chords = {new Chord(), new Chord(), new Chord()};
        final Signs signs = new Signs();

        void refresh(Notes notes, Staves staves) {
            if (!stale) {
                return;
            }
            clear();
            for (int i = 0; i < notes.count; i++) {
                step[i] = staves.stepOf(notes.staff[i], notes.tick[i], notes.number[i]);
            }
            for (int i = 0; i < notes.count; i++) {
                int cell = cellOf(notes.staff[i], notes.tick[i]);
                if (noteCount[cell] == 0) {
                    layCell(notes, i, cell);
                }
            }
            stale = false;
        }

        void clear() {
            Arrays.fill(signColumn, 0);
            Arrays.fill(high, TOP);
            Arrays.fill(low, 0);
            Arrays.fill(noteCount, 0);
            Arrays.fill(chordCount, 0);
            Arrays.fill(signColumns, 0);
            Arrays.fill(mostMoved, 0);
        }

        void layCell(Notes notes, int first, int cell) {
            gather(notes, first, cell);
            turnStems(cell);
            for (int voice = 0; voice < VOICES; voice++) {
                chords[voice].sortFromStemsFarEnd(step);
                chords[voice].turnHeads(step, aside);
            }
            moveChords(notes);
            for (int voice = 0; voice < VOICES; voice++) {
                if (chords[voice].size > 0) {
                    keep(chords[voice], cell);
                }
            }
            signColumns[cell] = signs.placeAll(notes.sign, step, signColumn);
        }

        /** The first NOTE stands for its STAFF and TICK. */
        void gather(Notes notes, int first, int cell) {
            for (int voice = 0; voice < VOICES; voice++) {
                chords[voice].clear();
            }
            signs.clear();
            for (int i = first; i < notes.count; i++) {
                if (notes.together(first, i)) {
                    chords[notes.voice[i]].add(i, step[i], notes.head[i]);
                    noteCount[cell]++;
                    if (notes.sign[i] != NO_SIGN) {
                        signs.add(i);
                    }
                }
            }
        }

        void turnStems(int cell) {
            for (int voice = 0; voice < VOICES; voice++) {
                chordCount[cell] += chords[voice].size > 0 ? 1 : 0;
            }
            boolean leastVoice = true;
            for (int voice = 0; voice < VOICES; voice++) {
                Chord chord = chords[voice];
                if (chord.size > 0) {
                    chord.up = chordCount[cell] > 1 ? leastVoice : chord.liesLow();
                    leastVoice = false;
                }
                for (int i = 0; i < chord.size; i++) {
                    stem[chord.heads[i]] = chord.up ? 1 : 0;
                }
            }
        }

        void moveChords(Notes notes) {
            for (int voice = 1; voice < VOICES; voice++) {
                Chord chord = chords[voice];
                while (chord.moved < MOST_MOVED && liesOverLesser(notes, voice)) {
                    chord.moved++;
                }
            }
        }

        boolean liesOverLesser(Notes notes, int voice) {
            for (int lesser = 0; lesser < voice; lesser++) {
                if (lieOver(notes, chords[voice], chords[lesser])) {
                    return true;
                }
            }
            return false;
        }

        boolean lieOver(Notes notes, Chord one, Chord other) {
            for (int i = 0; i < one.size; i++) {
                int a = one.heads[i];
                for (int k = 0; k < other.size; k++) {
                    int b = other.heads[k];
                    if (one.moved + aside[a] == other.moved + aside[b]
                            && Math.abs(step[a] - step[b]) <= 1 && !areShared(notes, a, b)) {
                        return true;
                    }
                }
            }
            return false;
        }

        /** For two NOTES of one STAFF and TICK. */
        boolean areShared(Notes notes, int a, int b) {
            return step[a] == step[b] && notes.head[a] == notes.head[b]
                    && notes.sign[a] == notes.sign[b] && stem[a] != stem[b];
        }

        void keep(Chord chord, int cell) {
            for (int i = 0; i < chord.size; i++) {
                moved[chord.heads[i]] = chord.moved;
                chordSize[chord.heads[i]] = chord.size;
            }
            high[cell] = Math.max(high[cell], chord.reachUp());
            low[cell] = Math.min(low[cell], chord.reachDown());
            mostMoved[cell] = Math.max(mostMoved[cell], chord.moved);
        }
    }
}
