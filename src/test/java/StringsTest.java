/** Promises 1 to 6: a new harp, its strings and its weather. */
final class StringsTest {
    private static final int LEAST = Integer.MIN_VALUE;
    private static final int MOST = Integer.MAX_VALUE;

    private StringsTest() {
    }

    public static void main(String[] args) {
        newHarp();
        harpsShareNothing();
        push();
        pushOfBroken();
        pushRefused();
        draw();
        drawOfBroken();
        drawRefused();
        setWeather();
        setWeatherRefused();
        string();
        stringRefused();
        moves();
        movesOfBroken();
        movesRefused();
        Check.end("StringsTest");
    }

    private static void newHarp() {
        WedgeHarps harp = new WedgeHarps();
        int[] counts = {0, 12, 0, 0, 0, 0, 0, 0};
        for (int what = 0; what < 8; what++) {
            Check.equal("new: count(" + what + ")", harp.count(what), counts[what]);
        }
        for (int k = 0; k < 12; k++) {
            int base = 300 + 20 * k;
            int[] facts = {base, 0, 0, 0, 1, base, 0};
            for (int what = 0; what < 7; what++) {
                Check.equal("new: string(" + k + ", " + what + ")", harp.string(k, what), facts[what]);
            }
        }
        for (int hour = 0; hour < 12; hour++) {
            Check.equal("new: weather of " + hour, harp.setWeather(hour, 0, 0), 0);
        }
        Check.outOfBounds("new: off(0)", harp, () -> harp.off(0));
    }

    private static void harpsShareNothing() {
        WedgeHarps one = new WedgeHarps();
        long before = one.digest();
        WedgeHarps other = Scenes.tight();
        other.chord(0, 300, 320, 0, 0);
        Scenes.passIn(other, 20, 20, 9);
        Check.equal("one harp behind another's calls", one.digest(), before);
    }

    private static void push() {
        WedgeHarps harp = new WedgeHarps();
        Check.equal("push(3, 4)", harp.push(3, 4), 400);
        Check.equal("its neighbour below", harp.string(2, 5), 352);
        Check.equal("its neighbour above", harp.string(4, 5), 392);
        Check.equal("the next but one", harp.string(5, 5), 400);
        Check.equal("push(4, 1), pressed by 3", harp.push(4, 1), 402);
        Check.equal("push(3, -4), pressed by 4", harp.push(3, -4), 363);
        Check.equal("wedge of 3", harp.string(3, 1), 0);
        Check.equal("push(0, 20)", harp.push(0, 20), 500);
        Check.equal("push(0, -20)", harp.push(0, -20), 300);
        Check.equal("push(11, 20)", harp.push(11, 20), 720);
        Check.equal("the neighbour of 11", harp.string(10, 5), 560);
        Check.equal("push(11, -19)", harp.push(11, -19), 530);
    }

    private static void pushOfBroken() {
        WedgeHarps harp = Scenes.broken(6);
        Check.equal("push of a broken string", harp.push(6, 2), 0);
        Check.equal("its wedge", harp.string(6, 1), 2);
        Check.equal("its neighbour below", harp.string(5, 5), 406);
        Check.equal("its neighbour above", harp.string(7, 5), 446);
    }

    private static void pushRefused() {
        WedgeHarps harp = new WedgeHarps();
        for (int string : new int[] {-1, 12, LEAST, MOST}) {
            Check.outOfBounds("push(" + string + ", 1)", harp, () -> harp.push(string, 1));
            Check.outOfBounds("push(" + string + ", 0)", harp, () -> harp.push(string, 0));
        }
        for (int steps : new int[] {0, 21, -21, LEAST, MOST}) {
            Check.badArgument("push(0, " + steps + ")", harp, () -> harp.push(0, steps));
        }
        Check.badState("push below 0", harp, () -> harp.push(0, -1));
        harp.push(0, 1);
        Check.badState("push above 20", harp, () -> harp.push(0, 20));
        Check.badState("push below 0 by 2", harp, () -> harp.push(0, -2));
        Check.badArgument("push by 21 from 1", harp, () -> harp.push(0, 21));
    }

    private static void draw() {
        WedgeHarps harp = new WedgeHarps();
        harp.push(2, 3);
        harp.push(3, 1);
        Check.equal("draw(2, 100)", harp.draw(2, 100), 133);
        Check.equal("its wedge", harp.string(2, 1), 3);
        Check.equal("its base", harp.string(2, 0), 100);
        Check.equal("draw(2, 900)", harp.draw(2, 900), 933);
        Scenes.passIn(harp, 2, 20, 6);
        Check.equal("strain ahead of draw", harp.string(2, 3), 32);
        Check.equal("drift ahead of draw", harp.string(2, 2), 2);
        Check.equal("draw less the swelling", harp.draw(2, 500), 531);
        Check.equal("strain behind draw", harp.string(2, 3), 0);
        Check.equal("drift behind draw", harp.string(2, 2), 0);
        Check.equal("the swelling stays", harp.count(4), 2);
        Check.equal("another string's strain stays", harp.string(11, 3), 16);
    }

    private static void drawOfBroken() {
        WedgeHarps harp = Scenes.broken(6);
        Check.equal("whole ahead of draw", harp.string(6, 4), 0);
        Check.equal("draw of a broken string", harp.draw(6, 420), 420);
        Check.equal("whole behind draw", harp.string(6, 4), 1);
        Check.equal("how often it broke", harp.string(6, 6), 1);
    }

    private static void drawRefused() {
        WedgeHarps harp = new WedgeHarps();
        for (int string : new int[] {-1, 12, LEAST, MOST}) {
            Check.outOfBounds("draw(" + string + ", 300)", harp, () -> harp.draw(string, 300));
            Check.outOfBounds("draw(" + string + ", 99)", harp, () -> harp.draw(string, 99));
        }
        for (int base : new int[] {99, 901, 0, LEAST, MOST}) {
            Check.badArgument("draw(0, " + base + ")", harp, () -> harp.draw(0, base));
        }
    }

    private static void setWeather() {
        WedgeHarps harp = new WedgeHarps();
        Check.equal("first weather", harp.setWeather(0, 20, 9), 0);
        Check.equal("weather before", harp.setWeather(0, 7, 3), 209);
        Check.equal("weather before that", harp.setWeather(0, 0, 0), 73);
        Check.equal("weather of 11", harp.setWeather(11, 1, 0), 0);
        Check.equal("weather of 11 before", harp.setWeather(11, 0, 1), 10);
        Check.equal("weather of 10 is untouched", harp.setWeather(10, 0, 0), 0);
    }

    private static void setWeatherRefused() {
        WedgeHarps harp = new WedgeHarps();
        for (int hour : new int[] {-1, 12, LEAST, MOST}) {
            Check.outOfBounds("setWeather(" + hour + ", 1, 1)", harp, () -> harp.setWeather(hour, 1, 1));
            Check.outOfBounds("setWeather(" + hour + ", 21, 10)", harp, () -> harp.setWeather(hour, 21, 10));
        }
        for (int wind : new int[] {-1, 21, LEAST, MOST}) {
            Check.badArgument("setWeather(0, " + wind + ", 1)", harp, () -> harp.setWeather(0, wind, 1));
        }
        for (int damp : new int[] {-1, 10, LEAST, MOST}) {
            Check.badArgument("setWeather(0, 1, " + damp + ")", harp, () -> harp.setWeather(0, 1, damp));
        }
    }

    private static void string() {
        WedgeHarps harp = Scenes.tight();
        Scenes.passIn(harp, 2, 20, 6);
        int[] facts = {900, 20, 2, 44, 1, 1220, 0};
        for (int what = 0; what < 7; what++) {
            Check.equal("string(5, " + what + ")", harp.string(5, what), facts[what]);
        }
        WedgeHarps other = Scenes.broken(7);
        other.push(7, 3);
        int[] brokenFacts = {900, 3, 0, 0, 0, 0, 1};
        for (int what = 0; what < 7; what++) {
            Check.equal("broken: string(7, " + what + ")", other.string(7, what), brokenFacts[what]);
        }
        other.draw(7, 900);
        Scenes.passIn(other, 7, 20, 0);
        Check.equal("how often it broke behind a second time", other.string(7, 6), 2);
    }

    private static void stringRefused() {
        WedgeHarps harp = new WedgeHarps();
        for (int string : new int[] {-1, 12, LEAST, MOST}) {
            Check.outOfBounds("string(" + string + ", 0)", harp, () -> harp.string(string, 0));
        }
        for (int what : new int[] {-1, 7, LEAST, MOST}) {
            Check.outOfBounds("string(0, " + what + ")", harp, () -> harp.string(0, what));
        }
    }

    private static void moves() {
        WedgeHarps harp = new WedgeHarps();
        long before = harp.digest();
        Check.equal("moves(3, 2, 3)", harp.moves(3, 2, 3), 20);
        Check.equal("moves(3, 2, 4)", harp.moves(3, 2, 4), 6);
        Check.equal("moves(3, 2, 2)", harp.moves(3, 2, 2), 6);
        Check.equal("moves(3, 2, 5)", harp.moves(3, 2, 5), 0);
        Check.equal("moves(3, 0, 3)", harp.moves(3, 0, 3), 0);
        Check.equal("moves(0, -20, 0), wherever the wedge is then", harp.moves(0, -20, 0), -200);
        Check.equal("moves(0, -20, 1)", harp.moves(0, -20, 1), -60);
        Check.equal("moves(11, 20, 10)", harp.moves(11, 20, 10), 60);
        Check.equal("moves(11, 20, 0)", harp.moves(11, 20, 0), 0);
        Check.equal("moves changes nothing", harp.digest(), before);
    }

    private static void movesOfBroken() {
        WedgeHarps harp = Scenes.broken(6);
        Check.equal("a broken string by itself", harp.moves(6, 5, 6), 0);
        Check.equal("a broken string by its neighbour", harp.moves(5, 5, 6), 0);
        Check.equal("a neighbour by a broken string", harp.moves(6, 5, 5), 15);
    }

    private static void movesRefused() {
        WedgeHarps harp = new WedgeHarps();
        for (int string : new int[] {-1, 12, LEAST, MOST}) {
            Check.outOfBounds("moves(" + string + ", 1, 0)", harp, () -> harp.moves(string, 1, 0));
            Check.outOfBounds("moves(0, 1, " + string + ")", harp, () -> harp.moves(0, 1, string));
            Check.outOfBounds("moves(0, 21, " + string + ")", harp, () -> harp.moves(0, 21, string));
        }
        for (int steps : new int[] {-21, 21, LEAST, MOST}) {
            Check.badArgument("moves(0, " + steps + ", 0)", harp, () -> harp.moves(0, steps, 0));
        }
        WedgeHarps broken = Scenes.broken(6);
        Check.badArgument("moves(0, 21, 6), 6 broken", broken, () -> broken.moves(0, 21, 6));
    }
}
