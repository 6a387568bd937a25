/** Harps in states that several tests start from. */
final class Scenes {
    private Scenes() {
    }

    /** The same weather for every hour of the table. */
    static void steadyWeather(WedgeHarps harp, int wind, int damp) {
        for (int hour = 0; hour < 12; hour++) {
            harp.setWeather(hour, wind, damp);
        }
    }

    static int passIn(WedgeHarps harp, int hours, int wind, int damp) {
        steadyWeather(harp, wind, damp);
        return harp.pass(hours);
    }

    /** The string 5 has the tone 1220, the greatest without drift: 900, and 20 steps under it and both neighbours. */
    static WedgeHarps tight() {
        WedgeHarps harp = new WedgeHarps();
        harp.draw(5, 900);
        harp.push(4, 20);
        harp.push(5, 20);
        harp.push(6, 20);
        return harp;
    }

    /** Only the string k is broken (for a k whose tone stays below 900 otherwise); calm and dry again. */
    static WedgeHarps broken(int k) {
        WedgeHarps harp = new WedgeHarps();
        harp.draw(k, 900);
        passIn(harp, 7, 20, 0);
        steadyWeather(harp, 0, 0);
        return harp;
    }

    /** No string is whole. */
    static WedgeHarps allBroken() {
        WedgeHarps harp = new WedgeHarps();
        for (int k = 0; k < 12; k++) {
            harp.draw(k, 900);
        }
        passIn(harp, 7, 20, 0);
        return harp;
    }

    /**
     * Nothing is as at first: wedges of 0, 1, 19, 20 and between under the strings 0, 1, 2, 11 and others, the string 6
     * broken, strains, drift and a swelling, no two hours of weather alike, and three chords, the last of which sounds.
     */
    static WedgeHarps lively() {
        WedgeHarps harp = new WedgeHarps();
        harp.push(1, 1);
        harp.push(2, 19);
        harp.push(11, 20);
        harp.push(4, 7);
        harp.push(6, 3);
        harp.draw(6, 900);
        harp.chord(0, 290, 400, 500, 0);
        harp.chord(5, 300, 3, 1500, 1);
        passIn(harp, 8, 20, 6);
        for (int hour = 0; hour < 12; hour++) {
            harp.setWeather(hour, 11 - hour, (5 * hour + 2) % 10);
        }
        harp.draw(9, 477);
        harp.chord(8, harp.string(8, 5), harp.string(9, 5) - 5, 0, 0);
        return harp;
    }

    /** A lively one, with all six chords that there may be. */
    static WedgeHarps livelyAndFull() {
        WedgeHarps harp = lively();
        harp.chord(0, 300, 400, 0, 0);
        harp.chord(10, 500, 700, 0, 0);
        harp.chord(3, 300, 1, 1, 1500);
        return harp;
    }

    /** The tones of so many strings, from a first one on. */
    static int[] tonesFrom(WedgeHarps harp, int first, int size) {
        int[] tones = new int[size];
        for (int i = 0; i < size; i++) {
            tones[i] = harp.string(first + i, 5);
        }
        return tones;
    }

    /** Tells a chord of two to four tones. */
    static void tell(WedgeHarps harp, int first, int[] tones) {
        harp.chord(first, tones[0], tones[1], tones.length > 2 ? tones[2] : 0, tones.length > 3 ? tones[3] : 0);
    }
}
