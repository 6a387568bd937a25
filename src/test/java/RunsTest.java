/** Long mixed runs of calls on the class and on PlainHarp, which must answer alike. */
final class RunsTest {
    private static final int RUNS = 240;
    /** Each is followed by a digest, and the document promises nothing about more than 512 calls. */
    private static final int CALLS = 256;
    private static final int HARPS_WITH_CHORDS_IN_REACH = 400;

    /** Kinds of calls that ask about a chord. */
    private static final int OFF = 9;
    private static final int SOUNDS = 10;
    private static final int STEPS = 11;
    private static final int HOLDS = 12;

    private static long seed;
    private static WedgeHarps harp;
    private static PlainHarp plain;

    private interface Call {
        long run();
    }

    private RunsTest() {
    }

    public static void main(String[] args) {
        for (int run = 0; run < RUNS; run++) {
            seed = run;
            harp = new WedgeHarps();
            plain = new PlainHarp();
            for (int call = 0; call < CALLS; call++) {
                oneCall(run + "/" + call, run % 4);
            }
        }
        for (int run = 0; run < HARPS_WITH_CHORDS_IN_REACH; run++) {
            seed = run;
            chordsInReach("chords " + run, run % 4);
        }
        Check.end("RunsTest");
    }

    /** Chords that are asked as soon as they are told: in the long runs nearly all of them are out of reach by then. */
    private static void chordsInReach(String at, int mood) {
        harp = new WedgeHarps();
        plain = new PlainHarp();
        for (int k = 0; k < 12; k++) {
            int string = k;
            int steps = any(0, 2) == 0 ? any(1, 3) : any(1, 20);
            same(at + " push", () -> harp.push(string, steps), () -> plain.push(string, steps));
            int wind = mood == 3 ? 0 : any(0, mood == 0 ? 20 : 6);
            int damp = any(0, 9);
            same(at + " setWeather", () -> harp.setWeather(string, wind, damp),
                    () -> plain.setWeather(string, wind, damp));
        }
        int hours = any(1, 40);
        same(at + " pass", () -> harp.pass(hours), () -> plain.pass(hours));
        for (int chord = 0; chord < 6; chord++) {
            int reach = chord < 3 ? 0 : chord;
            tellChordInReach(at, any(0, 8), any(2, 4), reach);
            for (int kind = OFF; kind <= HOLDS; kind++) {
                askAboutChord(at + "/" + chord, kind, chord);
            }
        }
    }

    /** The tones that the strings would have, each pushed by this reach at most, but for 5 to either side. */
    private static void tellChordInReach(String at, int first, int size, int reach) {
        int[] pushes = new int[6];
        for (int i = 1; i <= size; i++) {
            pushes[i] = any(-reach, reach);
        }
        int[] tones = new int[4];
        for (int i = 0; i < size; i++) {
            int pushed = 10 * pushes[i + 1] + 3 * (pushes[i] + pushes[i + 2]);
            tones[i] = Math.max(1, plain.string(first + i, 5) + pushed + any(-5, 5));
        }
        same(at + " chord", () -> harp.chord(first, tones[0], tones[1], tones[2], tones[3]),
                () -> plain.chord(first, tones[0], tones[1], tones[2], tones[3]));
    }

    /** A number from the range, by a generator of our own, so that each run is the same each time. */
    private static int any(int from, int to) {
        seed = seed * 6364136223846793005L + 1442695040888963407L;
        return from + (int) Long.remainderUnsigned(seed >>> 33, to - from + 1);
    }

    /** Mostly from the range, seldom just outside or far from it. */
    private static int mostly(int from, int to) {
        switch (any(0, 60)) {
            case 0:
                return from - 1;
            case 1:
                return to + 1;
            case 2:
                return any(0, 1) == 0 ? Integer.MIN_VALUE : Integer.MAX_VALUE;
            default:
                return any(from, to);
        }
    }

    private static void same(String what, Call got, Call due) {
        Check.equal(what, outcome(got), outcome(due));
        Check.equal("digest behind " + what, harp.digest(), plain.digest());
    }

    private static String outcome(Call call) {
        try {
            return Long.toString(call.run());
        } catch (IndexOutOfBoundsException | IllegalArgumentException | IllegalStateException e) {
            return e.getClass().getSimpleName();
        }
    }

    /** The mood 0 lets long times go by, 1 short ones, 2 has hard weather, 3 calm one. */
    private static void oneCall(String at, int mood) {
        int kind = any(0, 19);
        if (kind < 3) {
            changeStrings(at, kind);
        } else if (kind < 5) {
            int hour = mostly(0, 11);
            int wind = mostly(0, mood == 3 ? 4 : 20);
            int damp = mostly(0, 9);
            same(at + " setWeather", () -> harp.setWeather(hour, wind, damp), () -> plain.setWeather(hour, wind, damp));
        } else if (kind < 7) {
            tellChord(at);
        } else if (kind < 9) {
            int hours = mood == 0 ? mostly(1, 200) : mostly(1, 6);
            same(at + " pass(" + hours + ")", () -> harp.pass(hours), () -> plain.pass(hours));
        } else if (kind <= HOLDS) {
            askChord(at, kind);
        } else {
            askHarp(at, kind);
        }
    }

    private static void changeStrings(String at, int kind) {
        int string = mostly(0, 11);
        if (kind < 2) {
            int steps = any(0, 1) == 0 ? mostly(-4, 4) : mostly(-20, 20);
            same(at + " push(" + string + ", " + steps + ")",
                    () -> harp.push(string, steps), () -> plain.push(string, steps));
        } else {
            int base = mostly(100, 900);
            same(at + " draw(" + string + ", " + base + ")",
                    () -> harp.draw(string, base), () -> plain.draw(string, base));
        }
    }

    /** Mostly near the tones that the strings have, some pushes away, so that it can be brought to sound. */
    private static void tellChord(String at) {
        int first = mostly(0, 11);
        int size = any(2, 4);
        int[] tones = new int[4];
        for (int i = 0; i < size; i++) {
            int near = first >= 0 && first + i < 12 && first + i >= 0 ? plain.string(first + i, 5) : 500;
            tones[i] = any(0, 3) == 0 ? mostly(1, 1500) : near + any(-6, 6) + 10 * any(-1, 2);
        }
        if (any(0, 30) == 0) {
            tones[2] = 0;
        }
        if (any(0, 6) > 0 && outcome(() -> plain.count(2)).equals("6")) {
            return;
        }
        same(at + " chord", () -> harp.chord(first, tones[0], tones[1], tones[2], tones[3]),
                () -> plain.chord(first, tones[0], tones[1], tones[2], tones[3]));
    }

    private static void askChord(String at, int kind) {
        askAboutChord(at, kind, mostly(0, Math.max(0, plain.count(2) - 1)));
    }

    private static void askAboutChord(String at, int kind, int chord) {
        switch (kind) {
            case OFF:
                same(at + " off", () -> harp.off(chord), () -> plain.off(chord));
                break;
            case SOUNDS:
                same(at + " sounds", () -> harp.sounds(chord) ? 1 : 0, () -> plain.sounds(chord) ? 1 : 0);
                break;
            case STEPS:
                same(at + " steps", () -> harp.steps(chord), () -> plain.steps(chord));
                break;
            default:
                same(at + " holds", () -> harp.holds(chord), () -> plain.holds(chord));
        }
    }

    private static void askHarp(String at, int kind) {
        int string = mostly(0, 11);
        int other = any(0, 2) == 0 ? mostly(0, 11) : string + any(-1, 1);
        switch (kind) {
            case 13:
                int what = mostly(0, 6);
                same(at + " string", () -> harp.string(string, what), () -> plain.string(string, what));
                break;
            case 14:
                int steps = mostly(-20, 20);
                same(at + " moves", () -> harp.moves(string, steps, other), () -> plain.moves(string, steps, other));
                break;
            case 15:
                int which = mostly(0, 7);
                same(at + " count", () -> harp.count(which), () -> plain.count(which));
                break;
            case 16:
                same(at + " bears", () -> harp.bears(string), () -> plain.bears(string));
                break;
            case 17:
                same(at + " first", () -> harp.first(), () -> plain.first());
                break;
            case 18:
                int hours = mostly(1, 200);
                same(at + " foresee", () -> harp.foresee(hours, string), () -> plain.foresee(hours, string));
                break;
            default:
                same(at + " mean", () -> Double.doubleToLongBits(harp.mean()),
                        () -> Double.doubleToLongBits(plain.mean()));
        }
    }
}
