/** Two harps made alike: one refuses a call, and then both must answer all that can be asked alike. */
final class Twins {
    interface Maker {
        WedgeHarps make();
    }

    interface Call {
        void on(WedgeHarps harp);
    }

    private Twins() {
    }

    static void outOfBounds(String what, Maker maker, Call call) {
        refuses(what, maker, IndexOutOfBoundsException.class, call);
    }

    static void badArgument(String what, Maker maker, Call call) {
        refuses(what, maker, IllegalArgumentException.class, call);
    }

    static void badState(String what, Maker maker, Call call) {
        refuses(what, maker, IllegalStateException.class, call);
    }

    private static void refuses(String what, Maker maker, Class<? extends RuntimeException> due, Call call) {
        WedgeHarps asked = maker.make();
        WedgeHarps spared = maker.make();
        Check.equal(what, Check.nameOfThrown(() -> call.on(asked)), due.getSimpleName());
        Check.equal(what + ", all answers behind it", answersOf(asked), answersOf(spared));
    }

    /** Some 220 calls, so that a harp stays within the 512 that the document promises anything about. */
    private static String answersOf(WedgeHarps harp) {
        StringBuilder told = new StringBuilder();
        tellState(harp, told);
        tellForecasts(harp, told);
        tellChords(harp, told);
        tellChanges(harp, told);
        return told.toString();
    }

    private static void tellState(WedgeHarps harp, StringBuilder told) {
        told.append("digest ").append(harp.digest()).append(" mean ").append(harp.mean());
        for (int what = 0; what < 8; what++) {
            told.append(" count ").append(harp.count(what));
        }
        for (int k = 0; k < 12; k++) {
            for (int what = 0; what < 7; what++) {
                told.append(" string ").append(harp.string(k, what));
            }
        }
    }

    private static void tellForecasts(WedgeHarps harp, StringBuilder told) {
        told.append(" first ").append(harp.first());
        for (int k = 0; k < 12; k++) {
            told.append(" bears ").append(harp.bears(k));
            told.append(" foresee ").append(harp.foresee(1, k)).append(' ').append(harp.foresee(200, k));
        }
    }

    private static void tellChords(WedgeHarps harp, StringBuilder told) {
        int chords = harp.count(2);
        for (int i = 0; i < chords; i++) {
            told.append(" chord ").append(harp.off(i)).append(' ').append(harp.sounds(i));
            told.append(' ').append(harp.steps(i)).append(' ').append(harp.holds(i));
        }
    }

    /** The table is told only by setting it, and the number of a next chord only by telling one. */
    private static void tellChanges(WedgeHarps harp, StringBuilder told) {
        int broken = harp.pass(13);
        told.append(" pass ").append(broken).append(" digest ").append(harp.digest());
        for (int hour = 0; hour < 12; hour++) {
            told.append(" weather ").append(harp.setWeather(hour, hour, 9 - hour % 10));
        }
        for (int k = 0; k < 12; k++) {
            told.append(" push ").append(harp.push(k, harp.string(k, 1) == 0 ? 1 : -1));
        }
        if (harp.count(2) < 6) {
            told.append(" next ").append(harp.chord(4, 380, 400, 0, 0));
        }
        told.append(" digest ").append(harp.digest());
    }
}
