/** A wind harp that is tuned by wedges. */
public final class WedgeHarps {
    private static final int STRINGS = 12;
    private static final int LOWEST_BASE_AT_FIRST = 300;
    private static final int BASE_RISE_AT_FIRST = 20;
    private static final int MIN_BASE = 100;
    private static final int MAX_BASE = 900;
    private static final int MAX_WEDGE = 20;
    private static final int MAX_DRIFT = 50;
    private static final int MAX_STRAIN = 100;
    private static final int MAX_SWELLING = 30;

    private static final int OWN_STEP_TONE = 10;
    private static final int NEIGHBOUR_STEP_TONE = 3;

    private static final int TABLE_HOURS = 12;
    private static final int MAX_WIND = 20;
    private static final int MAX_DAMP = 9;
    private static final int WIND_DIVISOR = 1000;
    private static final int STRAIN_LOSS = 2;
    private static final int STRETCHING_STRAIN = 50;
    private static final int TIGHTENING_DAMP = 6;
    private static final int SWELLING_DAMP = 5;

    private static final int MAX_CHORDS = 6;
    private static final int MAX_TONES = 4;
    private static final int MAX_TONE = 1500;
    private static final int MAX_DIFFERENCE = 5;
    private static final int CHORD_REACH = 4;
    /** More steps than the wedges of a chord can be pushed. */
    private static final int NEVER = 1000;

    private static final int MAX_HOURS = 200;
    private static final int BEARING_HOURS = 24;
    private static final int STRING_FACTS = 7;
    private static final int COUNTS = 8;
    private static final long DIGEST_START = 947L;
    private static final long DIGEST_FACTOR = 31L;

    private final Harp now;
    /** Holds what would be, so that a forecast neither changes the harp nor makes a new one. */
    private final Harp later;
    private final int[] windTable;
    private final int[] dampTable;
    private final Chord[] chords;
    private int told;

    /** Creates a harp without chords, in the hour 0. */
    public WedgeHarps() {
        now = new Harp();
        later = new Harp();
        windTable = new int[TABLE_HOURS];
        dampTable = new int[TABLE_HOURS];
        chords = new Chord[MAX_CHORDS];
        for (int i = 0; i < MAX_CHORDS; i++) {
            chords[i] = new Chord();
        }
        told = 0;
    }

    // ---- strings and weather

    /** Pushes the wedge of a string, and returns the tone of the string then. */
    public int push(int string, int steps)
            throws IndexOutOfBoundsException, IllegalArgumentException, IllegalStateException {
        checkString(string);
        checkWedgeSteps(steps);
        if (steps == 0) {
            throw new IllegalArgumentException("a push of 0 steps");
        }
        if (!now.takesPush(string, steps)) {
            throw new IllegalStateException("the wedge would not be 0 to 20");
        }
        now.wedge[string] += steps;
        return now.toneOf(string);
    }

    /** Draws a new string in the place of one, and returns its tone then. */
    public int draw(int string, int base) throws IndexOutOfBoundsException, IllegalArgumentException {
        checkString(string);
        if (base < MIN_BASE || base > MAX_BASE) {
            throw new IllegalArgumentException("the base is not 100 to 900");
        }
        now.renew(string, base);
        return now.toneOf(string);
    }

    /** Sets an hour of the table, and returns 10 * wind + damp, as they were before. */
    public int setWeather(int hour, int wind, int damp) throws IndexOutOfBoundsException, IllegalArgumentException {
        if (hour < 0 || hour >= TABLE_HOURS) {
            throw new IndexOutOfBoundsException("the hour is not 0 to 11");
        }
        if (wind < 0 || wind > MAX_WIND) {
            throw new IllegalArgumentException("the wind is not 0 to 20");
        }
        if (damp < 0 || damp > MAX_DAMP) {
            throw new IllegalArgumentException("the damp is not 0 to 9");
        }
        int before = weatherAt(hour);
        windTable[hour] = wind;
        dampTable[hour] = damp;
        return before;
    }

    /** Returns a fact of a string, by its number. */
    public int string(int string, int what) throws IndexOutOfBoundsException {
        checkString(string);
        if (what < 0 || what >= STRING_FACTS) {
            throw new IndexOutOfBoundsException("what is not 0 to 6");
        }
        return now.factOf(string, what);
    }

    /** Returns by how much the tone of the other string would be greater, if this wedge was so many steps greater. */
    public int moves(int string, int steps, int other) throws IndexOutOfBoundsException, IllegalArgumentException {
        checkString(string);
        checkString(other);
        checkWedgeSteps(steps);
        if (!now.whole[other]) {
            return 0;
        }
        if (string == other) {
            return OWN_STEP_TONE * steps;
        }
        return Math.abs(string - other) == 1 ? NEIGHBOUR_STEP_TONE * steps : 0;
    }

    // ---- chords

    /** Tells a chord, and returns its number. */
    public int chord(int first, int a, int b, int c, int d)
            throws IndexOutOfBoundsException, IllegalArgumentException, IllegalStateException {
        checkString(first);
        checkTone(a, 1);
        checkTone(b, 1);
        checkTone(c, 0);
        checkTone(d, 0);
        if (c == 0 && d != 0) {
            throw new IllegalArgumentException("a fourth tone without a third one");
        }
        int size = c == 0 ? 2 : d == 0 ? 3 : 4;
        if (first + size > STRINGS) {
            throw new IllegalArgumentException("there are not so many strings from the first one on");
        }
        if (told >= MAX_CHORDS) {
            throw new IllegalStateException("there are 6 chords");
        }
        Chord chord = chords[told];
        chord.place(first, size);
        chord.tune(a, b, c, d);
        told++;
        return told - 1;
    }

    /** Returns by how much a chord is off. */
    public int off(int chord) throws IndexOutOfBoundsException {
        checkChord(chord);
        return now.distanceFrom(chords[chord]);
    }

    /** Returns whether a chord sounds. */
    public boolean sounds(int chord) throws IndexOutOfBoundsException {
        checkChord(chord);
        return now.isTunedTo(chords[chord]);
    }

    /** Returns how few steps of its wedges bring a chord to sound; -1 if none do. */
    public int steps(int chord) throws IndexOutOfBoundsException {
        checkChord(chord);
        int fewest = fewestSteps(now, chords[chord], 0, 0, 0);
        return fewest < NEVER ? fewest : -1;
    }

    // ---- hours

    /** Lets hours go by, and returns how many strings break in them. */
    public int pass(int hours) throws IllegalArgumentException {
        checkHours(hours);
        int broken = 0;
        for (int h = 0; h < hours; h++) {
            broken += letHourGo(now, 0, STRINGS);
        }
        return broken;
    }

    /** Returns a count of the harp, by its number. */
    public int count(int what) throws IndexOutOfBoundsException {
        if (what < 0 || what >= COUNTS) {
            throw new IndexOutOfBoundsException("what is not 0 to 7");
        }
        return countOf(what);
    }

    // ---- what would be

    /** Returns the greatest steady wind that a string bears for 24 hours; -1 if there is none. */
    public int bears(int string) throws IndexOutOfBoundsException {
        checkString(string);
        // from the top: nothing says that a string bears each wind below one that it bears
        for (int wind = MAX_WIND; wind >= 0; wind--) {
            if (withstands(string, wind)) {
                return wind;
            }
        }
        return -1;
    }

    /** Returns the string that breaks first within 200 hours; -1 if none does. */
    public int first() {
        later.copy(now);
        for (int h = 0; h < MAX_HOURS; h++) {
            if (letHourGo(later, 0, STRINGS) > 0) {
                return lowestToBreak();
            }
        }
        return -1;
    }

    /** Returns behind how many hours a chord does not sound for the first time; -1 if it sounds for 200 hours. */
    public int holds(int chord) throws IndexOutOfBoundsException {
        checkChord(chord);
        Chord held = chords[chord];
        later.copy(now);
        for (int h = 0; h <= MAX_HOURS; h++) {
            if (!later.isTunedTo(held)) {
                return h;
            }
            letHourGo(later, held.lowest, held.lowest + held.size);
        }
        return -1;
    }

    /** Returns the tone of a string behind so many hours. */
    public int foresee(int hours, int string) throws IllegalArgumentException, IndexOutOfBoundsException {
        checkHours(hours);
        checkString(string);
        later.copy(now);
        for (int h = 0; h < hours; h++) {
            letHourGo(later, string, string + 1);
        }
        return later.toneOf(string);
    }

    /** Returns the mean tone of all strings that are whole; 0 if none is. */
    public double mean() {
        int whole = now.wholeStrings();
        return whole == 0 ? 0.0 : (double) now.sumOfTones() / whole;
    }

    /** Computes a checksum of all that is told of the harp. */
    public long digest() {
        long d = DIGEST_START;
        for (int what = 0; what < COUNTS; what++) {
            d = d * DIGEST_FACTOR + countOf(what);
        }
        for (int k = 0; k < STRINGS; k++) {
            for (int what = 0; what < STRING_FACTS; what++) {
                d = d * DIGEST_FACTOR + now.factOf(k, what);
            }
        }
        for (int hour = 0; hour < TABLE_HOURS; hour++) {
            d = d * DIGEST_FACTOR + weatherAt(hour);
        }
        for (int i = 0; i < told; i++) {
            d = digestWith(d, chords[i]);
        }
        return d;
    }

    // ---- what the calls above share

    private static void checkString(int string) {
        if (string < 0 || string >= STRINGS) {
            throw new IndexOutOfBoundsException("a string is not 0 to 11");
        }
    }

    private static void checkWedgeSteps(int steps) {
        if (steps < -MAX_WEDGE || steps > MAX_WEDGE) {
            throw new IllegalArgumentException("the steps are not -20 to 20");
        }
    }

    private static void checkTone(int tone, int least) {
        if (tone < least || tone > MAX_TONE) {
            throw new IllegalArgumentException("a tone is too small, or more than 1500");
        }
    }

    private static void checkHours(int hours) {
        if (hours < 1 || hours > MAX_HOURS) {
            throw new IllegalArgumentException("the hours are not 1 to 200");
        }
    }

    private void checkChord(int chord) {
        if (chord < 0 || chord >= told) {
            throw new IndexOutOfBoundsException("there is no such chord");
        }
    }

    private int weatherAt(int hour) {
        return 10 * windTable[hour] + dampTable[hour];
    }

    private int countOf(int what) {
        switch (what) {
            case 0:
                return now.hour;
            case 1:
                return now.wholeStrings();
            case 2:
                return told;
            case 3:
                return soundingChords();
            case 4:
                return now.swelling;
            case 5:
                return sumOf(now.wedge);
            case 6:
                return sumOf(now.strain);
            default:
                return sumOf(now.breaks);
        }
    }

    private int soundingChords() {
        int sounding = 0;
        for (int i = 0; i < told; i++) {
            if (now.isTunedTo(chords[i])) {
                sounding++;
            }
        }
        return sounding;
    }

    private static int sumOf(int[] row) {
        int sum = 0;
        for (int value : row) {
            sum += value;
        }
        return sum;
    }

    private long digestWith(long before, Chord chord) {
        long d = before * DIGEST_FACTOR + chord.lowest;
        d = d * DIGEST_FACTOR + chord.size;
        for (int place = 0; place < chord.size; place++) {
            d = d * DIGEST_FACTOR + chord.tones[place];
        }
        return d * DIGEST_FACTOR + now.distanceFrom(chord);
    }

    /** Lets an hour of the table go by for the strings from one up to another (left out); returns how many break. */
    private int letHourGo(Harp harp, int from, int until) {
        int hour = harp.hourOfTable();
        return harp.spendHour(from, until, windTable[hour], dampTable[hour]);
    }

    private boolean withstands(int string, int wind) {
        later.copy(now);
        for (int h = 0; h < BEARING_HOURS && later.whole[string]; h++) {
            later.spendHour(string, string + 1, wind, dampTable[later.hourOfTable()]);
        }
        return later.whole[string];
    }

    private int lowestToBreak() {
        for (int k = 0; k < STRINGS; k++) {
            if (now.whole[k] && !later.whole[k]) {
                return k;
            }
        }
        return -1;
    }

    /**
     * Returns how few steps bring a chord to sound from this place of it on, with the pushes of the string one ahead of
     * this place, and of that two ahead, settled (0 where there is no such string); NEVER if none do.
     */
    private static int fewestSteps(Harp harp, Chord chord, int place, int twoAhead, int oneAhead) {
        if (place >= chord.size) {
            return harp.fitsPushed(chord, place - 1, oneAhead, twoAhead) ? 0 : NEVER;
        }
        int fewest = NEVER;
        for (int push = -CHORD_REACH; push <= CHORD_REACH; push++) {
            // the string one ahead is settled by this push: a look at it here spares most of the search
            if (harp.takesPush(chord.lowest + place, push)
                    && (place == 0 || harp.fitsPushed(chord, place - 1, oneAhead, twoAhead + push))) {
                int behind = fewestSteps(harp, chord, place + 1, oneAhead, push);
                fewest = Math.min(fewest, Math.abs(push) + behind);
            }
        }
        return fewest;
    }

    /** A row of tones for strings side by side. */
    private static final class Chord {
        final int[] tones;
        int lowest;
        int size;

        Chord() {
            tones = new int[MAX_TONES];
            lowest = 0;
            size = 0;
        }

        void place(int lowest, int size) {
            this.lowest = lowest;
            this.size = size;
        }

        void tune(int a, int b, int c, int d) {
            tones[0] = a;
            tones[1] = b;
            tones[2] = c;
            tones[3] = d;
        }
    }

    /** The strings and the frame, as they are in one hour. */
    private static final class Harp {
        final int[] base;
        final int[] wedge;
        final int[] drift;
        final int[] strain;
        final int[] breaks;
        final boolean[] whole;
        int swelling;
        int hour;

        Harp() {
            base = new int[STRINGS];
            wedge = new int[STRINGS];
            drift = new int[STRINGS];
            strain = new int[STRINGS];
            breaks = new int[STRINGS];
            whole = new boolean[STRINGS];
            for (int k = 0; k < STRINGS; k++) {
                base[k] = LOWEST_BASE_AT_FIRST + BASE_RISE_AT_FIRST * k;
                whole[k] = true;
            }
            swelling = 0;
            hour = 0;
        }

        void copy(Harp other) {
            for (int k = 0; k < STRINGS; k++) {
                base[k] = other.base[k];
                wedge[k] = other.wedge[k];
                drift[k] = other.drift[k];
                strain[k] = other.strain[k];
                breaks[k] = other.breaks[k];
                whole[k] = other.whole[k];
            }
            swelling = other.swelling;
            hour = other.hour;
        }

        void renew(int string, int newBase) {
            base[string] = newBase;
            drift[string] = 0;
            strain[string] = 0;
            whole[string] = true;
        }

        boolean takesPush(int string, int steps) {
            int pushed = wedge[string] + steps;
            return pushed >= 0 && pushed <= MAX_WEDGE;
        }

        int toneOf(int string) {
            if (!whole[string]) {
                return 0;
            }
            int neighbours = 0;
            if (string > 0) {
                neighbours += wedge[string - 1];
            }
            if (string < STRINGS - 1) {
                neighbours += wedge[string + 1];
            }
            return base[string] + OWN_STEP_TONE * wedge[string] + NEIGHBOUR_STEP_TONE * neighbours
                    + drift[string] - swelling;
        }

        int factOf(int string, int what) {
            switch (what) {
                case 0:
                    return base[string];
                case 1:
                    return wedge[string];
                case 2:
                    return drift[string];
                case 3:
                    return strain[string];
                case 4:
                    return whole[string] ? 1 : 0;
                case 5:
                    return toneOf(string);
                default:
                    return breaks[string];
            }
        }

        int wholeStrings() {
            int sum = 0;
            for (int k = 0; k < STRINGS; k++) {
                if (whole[k]) {
                    sum++;
                }
            }
            return sum;
        }

        int sumOfTones() {
            int sum = 0;
            for (int k = 0; k < STRINGS; k++) {
                sum += toneOf(k);
            }
            return sum;
        }

        int distanceFrom(Chord chord) {
            int sum = 0;
            for (int place = 0; place < chord.size; place++) {
                sum += Math.abs(toneOf(chord.lowest + place) - chord.tones[place]);
            }
            return sum;
        }

        boolean isTunedTo(Chord chord) {
            for (int place = 0; place < chord.size; place++) {
                if (!fitsPushed(chord, place, 0, 0)) {
                    return false;
                }
            }
            return true;
        }

        /** Tells whether a string fits its tone of a chord, with its own wedge and those of its neighbours pushed. */
        boolean fitsPushed(Chord chord, int place, int ownSteps, int neighbourSteps) {
            int string = chord.lowest + place;
            int pushed = toneOf(string) + OWN_STEP_TONE * ownSteps + NEIGHBOUR_STEP_TONE * neighbourSteps;
            return whole[string] && Math.abs(pushed - chord.tones[place]) <= MAX_DIFFERENCE;
        }

        /** The hour's place in the table; no hour, however late, falls out of it. */
        int hourOfTable() {
            return Math.floorMod(hour, TABLE_HOURS);
        }

        /**
         * Lets an hour of this weather go by for the strings from one up to another (left out), and returns how many
         * break. Those left out change nothing for these, whose tones hang on the frame and on wedges besides.
         */
        int spendHour(int from, int until, int wind, int damp) {
            int broken = 0;
            for (int k = from; k < until; k++) {
                if (whole[k] && breaksIn(k, wind)) {
                    broken++;
                } else if (whole[k]) {
                    slip(k, damp);
                }
            }
            swell(damp);
            hour++;
            return broken;
        }

        private boolean breaksIn(int string, int wind) {
            int strained = Math.max(0, strain[string] + wind * toneOf(string) / WIND_DIVISOR - STRAIN_LOSS);
            if (strained <= MAX_STRAIN) {
                strain[string] = strained;
                return false;
            }
            whole[string] = false;
            strain[string] = 0;
            drift[string] = 0;
            breaks[string]++;
            return true;
        }

        private void slip(int string, int damp) {
            if (strain[string] >= STRETCHING_STRAIN) {
                drift[string] = Math.max(-MAX_DRIFT, drift[string] - 1);
            } else if (damp >= TIGHTENING_DAMP) {
                drift[string] = Math.min(MAX_DRIFT, drift[string] + 1);
            }
        }

        private void swell(int damp) {
            swelling = damp >= SWELLING_DAMP ? Math.min(MAX_SWELLING, swelling + 1) : Math.max(0, swelling - 1);
        }
    }
}
