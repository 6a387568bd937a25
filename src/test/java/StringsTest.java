/** Promises 1 to 6: a new harp, its strings and its weather. */
final class StringsTest {
    private StringsTest() {
    }

    public static void main(String[] args) {
        newHarp();
        harpsShareNothing();
        push();
        pushAtTheEnds();
        toneOfAll();
        pushOfBroken();
        pressedByBroken();
        draw();
        drawOfBroken();
        setWeather();
        string();
        moves();
        movesAtTheEnds();
        movesOfBroken();
        Check.end("StringsTest");
    }

    /** Promise 1: "a harp without chords, in the hour 0", and what the terms say of it "at first". */
    private static void newHarp() {
        WedgeHarps harp = new WedgeHarps();
        int[] counts = {0, 12, 0, 0, 0, 0, 0, 0};
        for (int what = 0; what < 8; what++) {
            Check.equal("new: count(" + what + ")", harp.count(what), counts[what]);
        }
        for (int k = 0; k < 12; k++) {
            int base = 300 + 20 * k;
            int[] facts = {base, 0, 0, 0, 1, base, 0};
            for (int what = 0; what < 7; what++) {
                Check.equal("new: string(" + k + ", " + what + ")", harp.string(k, what), facts[what]);
            }
        }
        for (int hour = 0; hour < 12; hour++) {
            Check.equal("new: weather of " + hour, harp.setWeather(hour, 0, 0), 0);
        }
    }

    private static void harpsShareNothing() {
        WedgeHarps one = new WedgeHarps();
        long before = one.digest();
        WedgeHarps other = Scenes.tight();
        other.chord(0, 300, 320, 0, 0);
        Scenes.passIn(other, 20, 20, 9);
        Check.equal("one harp behind another's calls", one.digest(), before);
    }

    private static void push() {
        WedgeHarps harp = new WedgeHarps();
        Check.equal("push(3, 4)", harp.push(3, 4), 400);
        Check.equal("its neighbour below", harp.string(2, 5), 352);
        Check.equal("its neighbour above", harp.string(4, 5), 392);
        Check.equal("the next but one", harp.string(5, 5), 400);
        Check.equal("push(4, 1), pressed by 3", harp.push(4, 1), 402);
        Check.equal("push(3, -4), pressed by 4", harp.push(3, -4), 363);
        Check.equal("wedge of 3", harp.string(3, 1), 0);
        Check.equal("push(0, 20)", harp.push(0, 20), 500);
        Check.equal("push(0, -20)", harp.push(0, -20), 300);
        Check.equal("push(11, 20)", harp.push(11, 20), 720);
        Check.equal("the neighbour of 11", harp.string(10, 5), 560);
        Check.equal("push(11, -19)", harp.push(11, -19), 530);
    }

    /** "A broken string has the tone 0", but its wedge is pushed, and presses its neighbours. */
    private static void pushOfBroken() {
        WedgeHarps harp = Scenes.broken(6);
        Check.equal("push of a broken string", harp.push(6, 2), 0);
        Check.equal("its wedge", harp.string(6, 1), 2);
        Check.equal("its neighbour below", harp.string(5, 5), 406);
        Check.equal("its neighbour above", harp.string(7, 5), 446);
    }

    /** "with this base, without drift and strain; the wedge stays". */
    private static void draw() {
        WedgeHarps harp = new WedgeHarps();
        harp.push(2, 3);
        harp.push(3, 1);
        Check.equal("draw(2, 100)", harp.draw(2, 100), 133);
        Check.equal("its wedge", harp.string(2, 1), 3);
        Check.equal("its base", harp.string(2, 0), 100);
        Check.equal("draw(2, 900)", harp.draw(2, 900), 933);
        Scenes.passIn(harp, 2, 20, 6);
        Check.equal("strain ahead of draw", harp.string(2, 3), 32);
        Check.equal("drift ahead of draw", harp.string(2, 2), 2);
        Check.equal("draw less the swelling", harp.draw(2, 500), 531);
        Check.equal("strain behind draw", harp.string(2, 3), 0);
        Check.equal("drift behind draw", harp.string(2, 2), 0);
        Check.equal("the swelling stays", harp.count(4), 2);
        Check.equal("another string's strain stays", harp.string(11, 3), 16);
    }

    /** "it is whole". */
    private static void drawOfBroken() {
        WedgeHarps harp = Scenes.broken(6);
        Check.equal("whole ahead of draw", harp.string(6, 4), 0);
        Check.equal("draw of a broken string", harp.draw(6, 420), 420);
        Check.equal("whole behind draw", harp.string(6, 4), 1);
        Check.equal("how often it broke", harp.string(6, 6), 1);
    }

    /** "10 * wind + damp, as they were before": 0 and 0 at first. */
    private static void setWeather() {
        WedgeHarps harp = new WedgeHarps();
        Check.equal("first weather", harp.setWeather(0, 20, 9), 0);
        Check.equal("weather before", harp.setWeather(0, 7, 3), 209);
        Check.equal("weather before that", harp.setWeather(0, 0, 0), 73);
        Check.equal("weather of 11", harp.setWeather(11, 1, 0), 0);
        Check.equal("weather of 11 before", harp.setWeather(11, 0, 1), 10);
        Check.equal("weather of 10 is untouched", harp.setWeather(10, 0, 0), 0);
    }

    private static void string() {
        WedgeHarps harp = Scenes.tight();
        Scenes.passIn(harp, 2, 20, 6);
        int[] facts = {900, 20, 2, 44, 1, 1220, 0};
        for (int what = 0; what < 7; what++) {
            Check.equal("string(5, " + what + ")", harp.string(5, what), facts[what]);
        }
        WedgeHarps other = Scenes.broken(7);
        other.push(7, 3);
        int[] brokenFacts = {900, 3, 0, 0, 0, 0, 1};
        for (int what = 0; what < 7; what++) {
            Check.equal("broken: string(7, " + what + ")", other.string(7, what), brokenFacts[what]);
        }
        other.draw(7, 900);
        Scenes.passIn(other, 7, 20, 0);
        Check.equal("how often it broke behind a second time", other.string(7, 6), 2);
    }

    private static void moves() {
        WedgeHarps harp = new WedgeHarps();
        long before = harp.digest();
        Check.equal("moves(3, 2, 3)", harp.moves(3, 2, 3), 20);
        Check.equal("moves(3, 2, 4)", harp.moves(3, 2, 4), 6);
        Check.equal("moves(3, 2, 2)", harp.moves(3, 2, 2), 6);
        Check.equal("moves(3, 2, 5)", harp.moves(3, 2, 5), 0);
        Check.equal("moves(3, 0, 3)", harp.moves(3, 0, 3), 0);
        Check.equal("moves(0, -20, 0), wherever the wedge is then", harp.moves(0, -20, 0), -200);
        Check.equal("moves(0, -20, 1)", harp.moves(0, -20, 1), -60);
        Check.equal("moves(11, 20, 10)", harp.moves(11, 20, 10), 60);
        Check.equal("moves(11, 20, 0)", harp.moves(11, 20, 0), 0);
        Check.equal("moves changes nothing", harp.digest(), before);
    }

    /** "0 if the other one is broken". */
    private static void movesOfBroken() {
        WedgeHarps harp = Scenes.broken(6);
        Check.equal("a broken string by itself", harp.moves(6, 5, 6), 0);
        Check.equal("a broken string by its neighbour", harp.moves(5, 5, 6), 0);
        Check.equal("a neighbour by a broken string", harp.moves(6, 5, 5), 15);
    }

    /** "the neighbours of the string k are k - 1 and k + 1, as far as there are such". */
    private static void pushAtTheEnds() {
        WedgeHarps harp = new WedgeHarps();
        Check.equal("push(0, 1)", harp.push(0, 1), 310);
        Check.equal("the string 1", harp.string(1, 5), 323);
        Check.equal("the string 11 is no neighbour of 0", harp.string(11, 5), 520);
        Check.equal("push(11, 1)", harp.push(11, 1), 530);
        Check.equal("the string 10", harp.string(10, 5), 503);
        Check.equal("the string 0 is no neighbour of 11", harp.string(0, 5), 310);
        Check.equal("push(1, 2), pressed by 1", harp.push(1, 2), 343);
        Check.equal("the string 0, pressed by 2", harp.string(0, 5), 316);
    }

    /** "its base, 10 for each step of its wedge, 3 for each step of the wedges of its neighbours", at most. */
    private static void toneOfAll() {
        WedgeHarps harp = new WedgeHarps();
        for (int k = 0; k < 12; k++) {
            harp.push(k, 20);
        }
        for (int k = 0; k < 12; k++) {
            int pressed = k == 0 || k == 11 ? 60 : 120;
            Check.equal("tone of " + k + " with all wedges at 20", harp.string(k, 5), 500 + 20 * k + pressed);
        }
        Scenes.passIn(harp, 35, 0, 9);
        Check.equal("with a drift of 35, and a swelling of 30", harp.string(3, 5), 560 + 120 + 35 - 30);
    }

    /** "3 for each step of the wedges of its neighbours (also of broken ones)". */
    private static void pressedByBroken() {
        WedgeHarps harp = new WedgeHarps();
        harp.push(4, 1);
        harp.draw(4, 900);
        harp.draw(6, 900);
        Check.equal("two strings break", Scenes.passIn(harp, 7, 20, 0), 2);
        Check.equal("between two broken ones, with a wedge", harp.string(5, 5), 403);
        harp.push(6, 20);
        Check.equal("between two broken ones, with two wedges", harp.string(5, 5), 463);
        harp.push(4, -1);
        Check.equal("one of them drawn back", harp.string(5, 5), 460);
        Check.equal("a broken one between wedges", harp.string(4, 5), 0);
        Check.equal("steps of all wedges", harp.count(5), 20);
        Check.equal("drawn anew, the wedge stays", harp.draw(6, 500), 700);
    }

    /** "by how much the tone of the other one would be greater ..., wherever it is then": also past 0 and 20. */
    private static void movesAtTheEnds() {
        WedgeHarps harp = new WedgeHarps();
        harp.push(4, 20);
        Check.equal("moves(4, 20, 4), the wedge at 20", harp.moves(4, 20, 4), 200);
        Check.equal("moves(4, 20, 5), the wedge at 20", harp.moves(4, 20, 5), 60);
        Check.equal("moves(4, -20, 3), the wedge at 20", harp.moves(4, -20, 3), -60);
        Check.equal("moves(5, -1, 5), the wedge at 0", harp.moves(5, -1, 5), -10);
        Check.equal("moves(0, 1, 1)", harp.moves(0, 1, 1), 3);
        Check.equal("moves(0, 1, 11), no neighbours", harp.moves(0, 1, 11), 0);
        Check.equal("moves(11, 1, 0), no neighbours", harp.moves(11, 1, 0), 0);
        Check.equal("moves(11, -1, 10)", harp.moves(11, -1, 10), -3);
        Check.equal("moves(11, -20, 11)", harp.moves(11, -20, 11), -200);
        Check.equal("moves(2, 20, 4), two apart", harp.moves(2, 20, 4), 0);
        Check.equal("moves(4, 20, 2), two apart", harp.moves(4, 20, 2), 0);
    }
}
