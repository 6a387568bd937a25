/** Harps in states that several tests start from. */
final class Scenes {
    private Scenes() {
    }

    /** The same weather for every hour of the table. */
    static void steadyWeather(WedgeHarps harp, int wind, int damp) {
        for (int hour = 0; hour < 12; hour++) {
            harp.setWeather(hour, wind, damp);
        }
    }

    static int passIn(WedgeHarps harp, int hours, int wind, int damp) {
        steadyWeather(harp, wind, damp);
        return harp.pass(hours);
    }

    /** The string 5 has the tone 1220, the greatest without drift: 900, and 20 steps under it and both neighbours. */
    static WedgeHarps tight() {
        WedgeHarps harp = new WedgeHarps();
        harp.draw(5, 900);
        harp.push(4, 20);
        harp.push(5, 20);
        harp.push(6, 20);
        return harp;
    }

    /** Only the string k is broken (for a k whose tone stays below 900 otherwise); calm and dry again. */
    static WedgeHarps broken(int k) {
        WedgeHarps harp = new WedgeHarps();
        harp.draw(k, 900);
        passIn(harp, 7, 20, 0);
        steadyWeather(harp, 0, 0);
        return harp;
    }
}
