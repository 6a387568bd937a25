/**
 * Each line of the document that begins with 'Throws': the last number that is taken and the first one that is refused;
 * which exception goes first, where several apply; and that a refused call changes nothing (see Twins).
 */
final class RefusalsTest {
    private static final int LEAST = Integer.MIN_VALUE;
    private static final int MOST = Integer.MAX_VALUE;
    private static final int[] NO_STRING = {-1, 12, LEAST, MOST};

    private RefusalsTest() {
    }

    public static void main(String[] args) {
        pushString();
        pushSteps();
        pushWedge();
        pushOrder();
        draw();
        drawOrder();
        setWeather();
        setWeatherOrder();
        string();
        moves();
        movesOrder();
        chordFirst();
        chordTones();
        chordThirdAndFourthTone();
        chordPastTheStrings();
        chordWhenFull();
        chordOrder();
        chordNumbers();
        chordNumbersWithoutChords();
        chordNumbersWhenFull();
        pass();
        count();
        bears();
        foresee();
        foreseeOrder();
        Check.end("RefusalsTest");
    }

    /** Throws IndexOutOfBoundsException if string is not 0 to 11. */
    private static void pushString() {
        for (int string : NO_STRING) {
            Twins.outOfBounds("push(" + string + ", 1)", Scenes::lively, harp -> harp.push(string, 1));
        }
        Check.equal("push of the string 0", new WedgeHarps().push(0, 1), 310);
        Check.equal("push of the string 11", new WedgeHarps().push(11, 1), 530);
    }

    /** Throws IllegalArgumentException if steps is 0, or not -20 to 20. */
    private static void pushSteps() {
        for (int steps : new int[] {0, 21, -21, LEAST, MOST}) {
            for (int string : new int[] {0, 2, 6, 11}) {
                String call = "push(" + string + ", " + steps + ")";
                Twins.badArgument(call, Scenes::lively, harp -> harp.push(string, steps));
            }
        }
        WedgeHarps harp = new WedgeHarps();
        Check.equal("push by 20", harp.push(4, 20), 580);
        Check.equal("push by -20", harp.push(4, -20), 380);
        Check.equal("push by 1", harp.push(4, 1), 390);
        Check.equal("push by -1", harp.push(4, -1), 380);
    }

    /** Throws IllegalStateException if its wedge would be less than 0, or more than 20. */
    private static void pushWedge() {
        int[][] pushes = {{0, -1}, {0, -20}, {1, -2}, {1, 20}, {2, 2}, {2, -20}, {11, 1}, {11, 20}, {6, 18}, {6, -4}};
        for (int[] push : pushes) {
            String call = "push(" + push[0] + ", " + push[1] + ")";
            Twins.badState(call, Scenes::lively, harp -> harp.push(push[0], push[1]));
        }
        int[][] taken = {{0, 20, 20}, {1, -1, 0}, {1, 19, 20}, {2, 1, 20}, {2, -19, 0}, {11, -20, 0}, {6, 17, 20}};
        for (int[] push : taken) {
            WedgeHarps harp = Scenes.lively();
            harp.push(push[0], push[1]);
            Check.equal("wedge behind push(" + push[0] + ", " + push[1] + ")", harp.string(push[0], 1), push[2]);
        }
    }

    private static void pushOrder() {
        for (int steps : new int[] {0, 21, -21, LEAST, MOST, -1}) {
            for (int string : NO_STRING) {
                String call = "push(" + string + ", " + steps + ")";
                Twins.outOfBounds(call, Scenes::lively, harp -> harp.push(string, steps));
            }
        }
        Twins.badArgument("too many steps, past 20", Scenes::lively, harp -> harp.push(11, 21));
        Twins.badArgument("too many steps, below 0", Scenes::lively, harp -> harp.push(0, -21));
    }

    /** Throws IndexOutOfBoundsException if string is not 0 to 11, IllegalArgumentException for the base. */
    private static void draw() {
        for (int string : NO_STRING) {
            Twins.outOfBounds("draw(" + string + ", 300)", Scenes::lively, harp -> harp.draw(string, 300));
        }
        for (int base : new int[] {99, 901, 0, -100, LEAST, MOST}) {
            for (int string : new int[] {0, 6, 11}) {
                String call = "draw(" + string + ", " + base + ")";
                Twins.badArgument(call, Scenes::lively, harp -> harp.draw(string, base));
            }
        }
        WedgeHarps harp = new WedgeHarps();
        Check.equal("draw of the string 0 with the base 100", harp.draw(0, 100), 100);
        Check.equal("draw of the string 11 with the base 900", harp.draw(11, 900), 900);
    }

    private static void drawOrder() {
        for (int string : NO_STRING) {
            for (int base : new int[] {99, 901, LEAST, MOST}) {
                String call = "draw(" + string + ", " + base + ")";
                Twins.outOfBounds(call, Scenes::lively, harp -> harp.draw(string, base));
            }
        }
    }

    /** Throws IndexOutOfBoundsException if hour is not 0 to 11, and IllegalArgumentException for wind and damp. */
    private static void setWeather() {
        for (int hour : NO_STRING) {
            Twins.outOfBounds("setWeather of " + hour, Scenes::lively, harp -> harp.setWeather(hour, 3, 3));
        }
        for (int hour : new int[] {0, 8, 11}) {
            for (int wind : new int[] {-1, 21, LEAST, MOST}) {
                Twins.badArgument("the wind " + wind, Scenes::lively, harp -> harp.setWeather(hour, wind, 3));
            }
            for (int damp : new int[] {-1, 10, LEAST, MOST}) {
                Twins.badArgument("the damp " + damp, Scenes::lively, harp -> harp.setWeather(hour, 3, damp));
            }
        }
        for (int hour : new int[] {0, 11}) {
            WedgeHarps harp = new WedgeHarps();
            Check.equal("a wind of 0 with a damp of 9", harp.setWeather(hour, 0, 9), 0);
            Check.equal("a wind of 20 with a damp of 0", harp.setWeather(hour, 20, 0), 9);
            Check.equal("as it was before", harp.setWeather(hour, 0, 0), 200);
        }
    }

    private static void setWeatherOrder() {
        for (int hour : NO_STRING) {
            Twins.outOfBounds("hour and wind", Scenes::lively, harp -> harp.setWeather(hour, 21, 0));
            Twins.outOfBounds("hour and damp", Scenes::lively, harp -> harp.setWeather(hour, 0, -1));
        }
    }

    /** Throws IndexOutOfBoundsException if string is not 0 to 11, or what is not 0 to 6. */
    private static void string() {
        for (int string : NO_STRING) {
            for (int what : new int[] {0, 6, 7}) {
                String call = "string(" + string + ", " + what + ")";
                Twins.outOfBounds(call, Scenes::lively, harp -> harp.string(string, what));
            }
        }
        for (int what : new int[] {-1, 7, LEAST, MOST}) {
            Twins.outOfBounds("string(0, " + what + ")", Scenes::lively, harp -> harp.string(0, what));
            Twins.outOfBounds("string(11, " + what + ")", Scenes::lively, harp -> harp.string(11, what));
        }
        Check.equal("string(0, 0)", Scenes.lively().string(0, 0), 300);
        Check.equal("string(11, 0)", Scenes.lively().string(11, 0), 520);
        Check.equal("string(6, 6)", Scenes.lively().string(6, 6), 1);
        Check.equal("string(11, 6)", Scenes.lively().string(11, 6), 0);
    }

    /** Throws IndexOutOfBoundsException if string or other is not 0 to 11, IllegalArgumentException for steps. */
    private static void moves() {
        for (int string : NO_STRING) {
            Twins.outOfBounds("moves(" + string + ", 1, 0)", Scenes::lively, harp -> harp.moves(string, 1, 0));
            Twins.outOfBounds("moves(0, 1, " + string + ")", Scenes::lively, harp -> harp.moves(0, 1, string));
            Twins.outOfBounds("moves(11, 0, " + string + ")", Scenes::lively, harp -> harp.moves(11, 0, string));
            Twins.outOfBounds("moves of none by none", Scenes::lively, harp -> harp.moves(string, 1, string));
        }
        for (int steps : new int[] {-21, 21, LEAST, MOST}) {
            for (int other : new int[] {0, 1, 6, 11}) {
                String call = "moves(0, " + steps + ", " + other + ")";
                Twins.badArgument(call, Scenes::lively, harp -> harp.moves(0, steps, other));
            }
        }
        WedgeHarps harp = Scenes.lively();
        Check.equal("moves by 20", harp.moves(0, 20, 0), 200);
        Check.equal("moves by -20", harp.moves(11, -20, 11), -200);
        Check.equal("moves by 0", harp.moves(0, 0, 0), 0);
    }

    private static void movesOrder() {
        for (int string : NO_STRING) {
            for (int steps : new int[] {-21, 21, LEAST, MOST}) {
                Twins.outOfBounds("string and steps", Scenes::lively, harp -> harp.moves(string, steps, 0));
                Twins.outOfBounds("other and steps", Scenes::lively, harp -> harp.moves(0, steps, string));
            }
        }
    }

    /** Throws IndexOutOfBoundsException if first is not 0 to 11. */
    private static void chordFirst() {
        for (int first : NO_STRING) {
            Twins.outOfBounds("a chord from " + first, Scenes::lively, harp -> harp.chord(first, 1, 1, 0, 0));
        }
        Check.equal("a chord from 0", Scenes.lively().chord(0, 1, 1, 0, 0), 3);
        Check.equal("a chord from 10", Scenes.lively().chord(10, 1, 1, 0, 0), 3);
        Twins.badArgument("11 is a string, but there is none behind it", Scenes::lively,
                harp -> harp.chord(11, 1, 1, 0, 0));
    }

    /** Throws IllegalArgumentException if a or b is not 1 to 1500, c or d is not 0 to 1500. */
    private static void chordTones() {
        for (int tone : new int[] {-1, 1501, LEAST, MOST}) {
            Twins.badArgument("a " + tone, Scenes::lively, harp -> harp.chord(0, tone, 1, 1, 1));
            Twins.badArgument("b " + tone, Scenes::lively, harp -> harp.chord(0, 1, tone, 1, 1));
            Twins.badArgument("c " + tone, Scenes::lively, harp -> harp.chord(0, 1, 1, tone, 1));
            Twins.badArgument("c " + tone + ", the last", Scenes::lively, harp -> harp.chord(0, 1, 1, tone, 0));
            Twins.badArgument("d " + tone, Scenes::lively, harp -> harp.chord(0, 1, 1, 1, tone));
        }
        Twins.badArgument("a 0", Scenes::lively, harp -> harp.chord(0, 0, 1, 1, 1));
        Twins.badArgument("a 0 of two", Scenes::lively, harp -> harp.chord(0, 0, 1, 0, 0));
        Twins.badArgument("b 0", Scenes::lively, harp -> harp.chord(0, 1, 0, 1, 1));
        Twins.badArgument("b 0 of two", Scenes::lively, harp -> harp.chord(0, 1, 0, 0, 0));
        WedgeHarps harp = new WedgeHarps();
        Check.equal("tones of 1", harp.chord(0, 1, 1, 1, 1), 0);
        Check.equal("tones of 1500", harp.chord(0, 1500, 1500, 1500, 1500), 1);
        Check.equal("off from 1", harp.off(0), 299 + 319 + 339 + 359);
        Check.equal("off from 1500", harp.off(1), 1200 + 1180 + 1160 + 1140);
    }

    /** Throws IllegalArgumentException if c is 0 and d is not. */
    private static void chordThirdAndFourthTone() {
        for (int d : new int[] {1, 400, 1500}) {
            Twins.badArgument("c 0 and d " + d, Scenes::lively, harp -> harp.chord(0, 1, 1, 0, d));
        }
        WedgeHarps harp = new WedgeHarps();
        Check.equal("c 0 and d 0", harp.chord(0, 290, 320, 0, 0), 0);
        Check.equal("c 1 and d 0", harp.chord(0, 290, 320, 1, 0), 1);
        Check.equal("c 1 and d 1", harp.chord(0, 290, 320, 1, 1), 2);
        Check.equal("off of two", harp.off(0), 10);
        Check.equal("off of three", harp.off(1), 10 + 339);
        Check.equal("off of four", harp.off(2), 10 + 339 + 359);
    }

    /** Throws IllegalArgumentException if there are not so many strings from the first one on. */
    private static void chordPastTheStrings() {
        Twins.badArgument("two from 11", Scenes::lively, harp -> harp.chord(11, 1, 1, 0, 0));
        Twins.badArgument("three from 10", Scenes::lively, harp -> harp.chord(10, 1, 1, 1, 0));
        Twins.badArgument("three from 11", Scenes::lively, harp -> harp.chord(11, 1, 1, 1, 0));
        Twins.badArgument("four from 9", Scenes::lively, harp -> harp.chord(9, 1, 1, 1, 1));
        Twins.badArgument("four from 10", Scenes::lively, harp -> harp.chord(10, 1, 1, 1, 1));
        Twins.badArgument("four from 11", Scenes::lively, harp -> harp.chord(11, 1, 1, 1, 1));
        WedgeHarps harp = new WedgeHarps();
        Check.equal("two from 10", harp.chord(10, 1, 1, 0, 0), 0);
        Check.equal("three from 9", harp.chord(9, 1, 1, 1, 0), 1);
        Check.equal("four from 8", harp.chord(8, 1, 1, 1, 1), 2);
    }

    /** Throws IllegalStateException if there are 6. */
    private static void chordWhenFull() {
        WedgeHarps harp = new WedgeHarps();
        for (int i = 0; i < 6; i++) {
            Check.equal("the number of chord " + i, harp.chord(i, 300 + 20 * i, 320 + 20 * i, 0, 0), i);
            Check.equal("chords behind it", harp.count(2), i + 1);
        }
        Twins.badState("a seventh of two", Scenes::livelyAndFull, full -> full.chord(0, 300, 320, 0, 0));
        Twins.badState("a seventh of three", Scenes::livelyAndFull, full -> full.chord(9, 1, 1500, 1, 0));
        Twins.badState("a seventh of four", Scenes::livelyAndFull, full -> full.chord(8, 1500, 1, 1, 1));
    }

    private static void chordOrder() {
        for (int first : NO_STRING) {
            Twins.outOfBounds("first and tone", Scenes::lively, harp -> harp.chord(first, 0, 1, 1, 1));
            Twins.outOfBounds("first and no third tone", Scenes::lively, harp -> harp.chord(first, 1, 1, 0, 1));
            Twins.outOfBounds("first, when full", Scenes::livelyAndFull, harp -> harp.chord(first, 1, 1, 0, 0));
            Twins.outOfBounds("all of them", Scenes::livelyAndFull, harp -> harp.chord(first, 1501, -1, 0, 1));
        }
        Twins.badArgument("a, when full", Scenes::livelyAndFull, harp -> harp.chord(0, 0, 1, 0, 0));
        Twins.badArgument("b, when full", Scenes::livelyAndFull, harp -> harp.chord(0, 1, 1501, 0, 0));
        Twins.badArgument("c, when full", Scenes::livelyAndFull, harp -> harp.chord(0, 1, 1, -1, 0));
        Twins.badArgument("d, when full", Scenes::livelyAndFull, harp -> harp.chord(0, 1, 1, 1, 1501));
        Twins.badArgument("no third, when full", Scenes::livelyAndFull, harp -> harp.chord(0, 1, 1, 0, 1));
        Twins.badArgument("past the strings, when full", Scenes::livelyAndFull, harp -> harp.chord(9, 1, 1, 1, 1));
    }

    /** Throws IndexOutOfBoundsException if there is no such chord: off, sounds, steps and holds, with three chords. */
    private static void chordNumbers() {
        for (int chord : new int[] {-1, 3, 5, 6, LEAST, MOST}) {
            noSuchChord(chord, Scenes::lively);
        }
        WedgeHarps harp = Scenes.lively();
        Check.equal("off(0)", harp.off(0), 13 + 13 + 29);
        Check.equal("sounds(2)", harp.sounds(2), true);
        Check.equal("steps(2)", harp.steps(2), 0);
        Check.equal("holds(0)", harp.holds(0), 0);
        Check.equal("holds(2)", harp.holds(2), 1);
    }

    private static void chordNumbersWithoutChords() {
        for (int chord : new int[] {-1, 0, 1, LEAST, MOST}) {
            noSuchChord(chord, WedgeHarps::new);
        }
    }

    private static void chordNumbersWhenFull() {
        for (int chord : new int[] {-1, 6, 7, LEAST, MOST}) {
            noSuchChord(chord, Scenes::livelyAndFull);
        }
        WedgeHarps harp = Scenes.livelyAndFull();
        Check.equal("off(5)", harp.off(5), 138 + 447 + 429 + 1500);
        Check.equal("sounds(5)", harp.sounds(5), false);
        Check.equal("steps(5)", harp.steps(5), -1);
        Check.equal("holds(5)", harp.holds(5), 0);
    }

    private static void noSuchChord(int chord, Twins.Maker maker) {
        Twins.outOfBounds("off(" + chord + ")", maker, harp -> harp.off(chord));
        Twins.outOfBounds("sounds(" + chord + ")", maker, harp -> harp.sounds(chord));
        Twins.outOfBounds("steps(" + chord + ")", maker, harp -> harp.steps(chord));
        Twins.outOfBounds("holds(" + chord + ")", maker, harp -> harp.holds(chord));
    }

    /** Throws IllegalArgumentException if hours is not 1 to 200. */
    private static void pass() {
        for (int hours : new int[] {0, -1, 201, LEAST, MOST}) {
            Twins.badArgument("pass(" + hours + ")", Scenes::lively, harp -> harp.pass(hours));
        }
        WedgeHarps harp = new WedgeHarps();
        Check.equal("pass(1)", harp.pass(1), 0);
        Check.equal("the hour behind it", harp.count(0), 1);
        Check.equal("pass(200)", harp.pass(200), 0);
        Check.equal("the hour behind it", harp.count(0), 201);
    }

    /** Throws IndexOutOfBoundsException if what is not 0 to 7. */
    private static void count() {
        for (int what : new int[] {-1, 8, LEAST, MOST}) {
            Twins.outOfBounds("count(" + what + ")", Scenes::lively, harp -> harp.count(what));
        }
        Check.equal("count(0)", Scenes.lively().count(0), 8);
        Check.equal("count(7)", Scenes.lively().count(7), 1);
    }

    /** Throws IndexOutOfBoundsException if string is not 0 to 11. */
    private static void bears() {
        for (int string : NO_STRING) {
            Twins.outOfBounds("bears(" + string + ")", Scenes::lively, harp -> harp.bears(string));
        }
        Check.equal("bears(0)", new WedgeHarps().bears(0), 20);
        Check.equal("bears(11)", new WedgeHarps().bears(11), 13);
    }

    /** Throws IllegalArgumentException if hours is not 1 to 200, IndexOutOfBoundsException if string is not 0 to 11. */
    private static void foresee() {
        for (int hours : new int[] {0, -1, 201, LEAST, MOST}) {
            Twins.badArgument("foresee(" + hours + ", 0)", Scenes::lively, harp -> harp.foresee(hours, 0));
            Twins.badArgument("foresee of a broken one", Scenes::lively, harp -> harp.foresee(hours, 6));
        }
        for (int string : NO_STRING) {
            Twins.outOfBounds("foresee(1, " + string + ")", Scenes::lively, harp -> harp.foresee(1, string));
            Twins.outOfBounds("foresee(200, " + string + ")", Scenes::lively, harp -> harp.foresee(200, string));
        }
        WedgeHarps harp = new WedgeHarps();
        Check.equal("foresee(1, 0)", harp.foresee(1, 0), 300);
        Check.equal("foresee(200, 0)", harp.foresee(200, 0), 300);
        Check.equal("foresee(1, 11)", harp.foresee(1, 11), 520);
        Check.equal("foresee(200, 11)", harp.foresee(200, 11), 520);
    }

    private static void foreseeOrder() {
        for (int string : NO_STRING) {
            for (int hours : new int[] {0, 201, LEAST, MOST}) {
                String call = "foresee(" + hours + ", " + string + ")";
                Twins.badArgument(call, Scenes::lively, harp -> harp.foresee(hours, string));
            }
        }
    }
}
