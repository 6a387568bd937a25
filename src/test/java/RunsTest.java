/** Long mixed runs of calls on the class and on PlainHarp, which must answer alike. */
final class RunsTest {
    private static final int RUNS = 240;
    /** Each is followed by a digest, and the document promises nothing about more than 512 calls. */
    private static final int CALLS = 256;

    private static long seed;
    private static WedgeHarps harp;
    private static PlainHarp plain;

    private interface Call {
        long run();
    }

    private RunsTest() {
    }

    public static void main(String[] args) {
        for (int run = 0; run < RUNS; run++) {
            seed = run;
            harp = new WedgeHarps();
            plain = new PlainHarp();
            for (int call = 0; call < CALLS; call++) {
                oneCall(run + "/" + call, run % 4);
            }
        }
        Check.end("RunsTest");
    }

    /** A number from the range, by a generator of our own, so that each run is the same each time. */
    private static int any(int from, int to) {
        seed = seed * 6364136223846793005L + 1442695040888963407L;
        return from + (int) Long.remainderUnsigned(seed >>> 33, to - from + 1);
    }

    /** Mostly from the range, seldom just outside or far from it. */
    private static int mostly(int from, int to) {
        switch (any(0, 60)) {
            case 0:
                return from - 1;
            case 1:
                return to + 1;
            case 2:
                return any(0, 1) == 0 ? Integer.MIN_VALUE : Integer.MAX_VALUE;
            default:
                return any(from, to);
        }
    }

    private static void same(String what, Call got, Call due) {
        Check.equal(what, outcome(got), outcome(due));
        Check.equal("digest behind " + what, harp.digest(), plain.digest());
    }

    private static String outcome(Call call) {
        try {
            return Long.toString(call.run());
        } catch (IndexOutOfBoundsException | IllegalArgumentException | IllegalStateException e) {
            return e.getClass().getSimpleName();
        }
    }

    /** The mood 0 lets long times go by, 1 short ones, 2 has hard weather, 3 calm one. */
    private static void oneCall(String at, int mood) {
        int kind = any(0, 19);
        if (kind < 3) {
            changeStrings(at, kind);
        } else if (kind < 5) {
            int hour = mostly(0, 11);
            int wind = mostly(0, mood == 3 ? 4 : 20);
            int damp = mostly(0, 9);
            same(at + " setWeather", () -> harp.setWeather(hour, wind, damp), () -> plain.setWeather(hour, wind, damp));
        } else if (kind < 7) {
            tellChord(at);
        } else if (kind < 9) {
            int hours = mood == 0 ? mostly(1, 200) : mostly(1, 6);
            same(at + " pass(" + hours + ")", () -> harp.pass(hours), () -> plain.pass(hours));
        } else if (kind < 13) {
            askChord(at, kind);
        } else {
            askHarp(at, kind);
        }
    }

    private static void changeStrings(String at, int kind) {
        int string = mostly(0, 11);
        if (kind < 2) {
            int steps = any(0, 1) == 0 ? mostly(-4, 4) : mostly(-20, 20);
            same(at + " push(" + string + ", " + steps + ")",
                    () -> harp.push(string, steps), () -> plain.push(string, steps));
        } else {
            int base = mostly(100, 900);
            same(at + " draw(" + string + ", " + base + ")",
                    () -> harp.draw(string, base), () -> plain.draw(string, base));
        }
    }

    /** Mostly near the tones that the strings have, some pushes away, so that it can be brought to sound. */
    private static void tellChord(String at) {
        int first = mostly(0, 11);
        int size = any(2, 4);
        int[] tones = new int[4];
        for (int i = 0; i < size; i++) {
            int near = first >= 0 && first + i < 12 && first + i >= 0 ? plain.string(first + i, 5) : 500;
            tones[i] = any(0, 3) == 0 ? mostly(1, 1500) : near + any(-6, 6) + 10 * any(-1, 2);
        }
        if (any(0, 30) == 0) {
            tones[2] = 0;
        }
        if (any(0, 6) > 0 && outcome(() -> plain.count(2)).equals("6")) {
            return;
        }
        same(at + " chord", () -> harp.chord(first, tones[0], tones[1], tones[2], tones[3]),
                () -> plain.chord(first, tones[0], tones[1], tones[2], tones[3]));
    }

    private static void askChord(String at, int kind) {
        int chord = mostly(0, Math.max(0, plain.count(2) - 1));
        switch (kind) {
            case 9:
                same(at + " off", () -> harp.off(chord), () -> plain.off(chord));
                break;
            case 10:
                same(at + " sounds", () -> harp.sounds(chord) ? 1 : 0, () -> plain.sounds(chord) ? 1 : 0);
                break;
            case 11:
                same(at + " steps", () -> harp.steps(chord), () -> plain.steps(chord));
                break;
            default:
                same(at + " holds", () -> harp.holds(chord), () -> plain.holds(chord));
        }
    }

    private static void askHarp(String at, int kind) {
        int string = mostly(0, 11);
        int other = any(0, 2) == 0 ? mostly(0, 11) : string + any(-1, 1);
        switch (kind) {
            case 13:
                int what = mostly(0, 6);
                same(at + " string", () -> harp.string(string, what), () -> plain.string(string, what));
                break;
            case 14:
                int steps = mostly(-20, 20);
                same(at + " moves", () -> harp.moves(string, steps, other), () -> plain.moves(string, steps, other));
                break;
            case 15:
                int which = mostly(0, 7);
                same(at + " count", () -> harp.count(which), () -> plain.count(which));
                break;
            case 16:
                same(at + " bears", () -> harp.bears(string), () -> plain.bears(string));
                break;
            case 17:
                same(at + " first", () -> harp.first(), () -> plain.first());
                break;
            case 18:
                int hours = mostly(1, 200);
                same(at + " foresee", () -> harp.foresee(hours, string), () -> plain.foresee(hours, string));
                break;
            default:
                same(at + " mean", () -> Double.doubleToLongBits(harp.mean()),
                        () -> Double.doubleToLongBits(plain.mean()));
        }
    }
}
