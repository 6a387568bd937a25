import java.math.BigInteger;
import java.util.Arrays;

/** Promises 13 to 18: what would be, the mean and the checksum. */
final class ForecastTest {
    private static final long NEW_DIGEST = -1126338768747917825L;
    private static final long TOLD_DIGEST = -4488278565543908632L;

    private ForecastTest() {
    }

    public static void main(String[] args) {
        bears();
        bearsJust24Hours();
        bearsInDamp();
        bearsByTheHoursDamp();
        bearsAtItsEnds();
        bearsOfBroken();
        first();
        firstWithin200Hours();
        firstOfBroken();
        firstOfAll();
        holds();
        holdsAtMost200Hours();
        holdsUntilItBreaks();
        holdsBesideABreakingString();
        foresee();
        foreseeBreaking();
        foreseeTheHourOfBreaking();
        mean();
        digest();
        digestWrapsAround();
        nothingIsChanged();
        Check.end("ForecastTest");
    }

    private static void bears() {
        WedgeHarps harp = new WedgeHarps();
        Check.equal("a tone of 300 bears any wind", harp.bears(0), 20);
        Check.equal("a tone of 520 bears 6 - 2 an hour", harp.bears(11), 13);
        Scenes.steadyWeather(harp, 20, 0);
        Check.equal("whatever wind the table tells", harp.bears(11), 13);
        WedgeHarps tight = Scenes.tight();
        Check.equal("a tone of 1220 bears 6 - 2 an hour", tight.bears(5), 5);
        Scenes.passIn(tight, 4, 20, 0);
        Scenes.passIn(tight, 1, 12, 0);
        Check.equal("a strain of 100 bears 2 - 2 an hour", tight.bears(5), 2);
    }

    /** From a strain of 4 to 100 in 24 hours; from one of 5 to 101, with a wind of 12 or 13. */
    private static void bearsJust24Hours() {
        WedgeHarps harp = new WedgeHarps();
        Scenes.passIn(harp, 1, 12, 0);
        Check.equal("strain", harp.string(11, 3), 4);
        Check.equal("4 and 24 times 4", harp.bears(11), 13);
        WedgeHarps other = new WedgeHarps();
        Scenes.passIn(other, 1, 14, 0);
        Check.equal("strain", other.string(11, 3), 5);
        Check.equal("5 and 24 times 4", other.bears(11), 11);
    }

    /** The swelling brings the tone of 520 below 500, so that a wind of 12 strains it by 5 - 2 at last. */
    private static void bearsInDamp() {
        WedgeHarps harp = new WedgeHarps();
        Scenes.passIn(harp, 1, 14, 0);
        Scenes.steadyWeather(harp, 0, 5);
        Check.equal("bears in damp", harp.bears(11), 12);
    }

    /** "-1 if it is broken". */
    private static void bearsOfBroken() {
        WedgeHarps harp = Scenes.broken(6);
        Check.equal("a broken string", harp.bears(6), -1);
        harp.draw(6, 420);
        Check.equal("drawn anew", harp.bears(6), 16);
    }

    private static void first() {
        WedgeHarps harp = new WedgeHarps();
        Check.equal("none in calm", harp.first(), -1);
        Scenes.steadyWeather(harp, 20, 0);
        Check.equal("10 and 11 get strained alike, but 10 less behind 50", harp.first(), 11);
        harp.draw(4, 800);
        harp.draw(9, 900);
        Check.equal("the first one, not the smallest", harp.first(), 9);
        harp.draw(2, 900);
        Check.equal("the smallest of two in an hour", harp.first(), 2);
    }

    /** The string 11 gets strained by 1 in each second hour, and breaks in the hour 201. */
    private static WedgeHarps breakingInHour201() {
        WedgeHarps harp = new WedgeHarps();
        harp.draw(11, 900);
        for (int hour = 0; hour < 12; hour++) {
            harp.setWeather(hour, hour % 2 == 0 ? 4 : 3, 0);
        }
        return harp;
    }

    /** "within 200 hours". */
    private static void firstWithin200Hours() {
        WedgeHarps harp = breakingInHour201();
        Check.equal("breaking in the hour 201", harp.first(), -1);
        harp.pass(1);
        Check.equal("breaking in the hour 200", harp.first(), 11);
        Check.equal("breaks in 199 hours", harp.pass(199), 0);
        Check.equal("breaking in the next hour", harp.first(), 11);
        Check.equal("breaks in the next hour", harp.pass(1), 1);
        Check.equal("broken already", harp.first(), -1);
    }

    /** "-1 if none does": none that is whole. */
    private static void firstOfBroken() {
        WedgeHarps harp = new WedgeHarps();
        for (int k = 0; k < 12; k++) {
            harp.draw(k, 900);
        }
        Check.equal("all break in an hour", Scenes.passIn(harp, 7, 20, 0), 12);
        Check.equal("none is left", harp.first(), -1);
        harp.draw(8, 900);
        Check.equal("but one", harp.first(), 8);
    }

    /** "0 if it does not now"; "-1 if it sounds all the time". */
    private static void holds() {
        WedgeHarps harp = new WedgeHarps();
        harp.chord(0, 300, 320, 0, 0);
        harp.chord(0, 294, 320, 0, 0);
        harp.chord(3, 355, 375, 395, 0);
        Check.equal("in calm", harp.holds(0), -1);
        Check.equal("not sounding now", harp.holds(1), 0);
        Scenes.steadyWeather(harp, 0, 5);
        Check.equal("behind a swelling of 6", harp.holds(0), 6);
        Check.equal("0, though it would sound later", harp.holds(1), 0);
        Check.equal("behind a swelling of 11", harp.holds(2), 11);
        harp.pass(5);
        Check.equal("an hour left", harp.holds(0), 1);
        harp.pass(1);
        Check.equal("none left", harp.holds(0), 0);
    }

    /**
     * "at most 200": drift and swelling go by 2 in 12 hours, until the swelling is held; in the hour 201 the tone is 6
     * greater.
     */
    private static void holdsAtMost200Hours() {
        WedgeHarps harp = new WedgeHarps();
        for (int hour = 0; hour < 12; hour++) {
            harp.setWeather(hour, 0, hour < 5 ? 5 : hour < 10 ? 0 : 6);
        }
        harp.chord(0, 300, 320, 0, 0);
        Check.equal("201 hours", harp.holds(0), -1);
        harp.pass(1);
        Check.equal("200 hours", harp.holds(0), 200);
        harp.pass(199);
        Check.equal("it sounds", harp.sounds(0), true);
        harp.pass(1);
        Check.equal("it does not any more", harp.sounds(0), false);
    }

    /** A string of the chord that breaks ends it. */
    private static void holdsUntilItBreaks() {
        WedgeHarps harp = new WedgeHarps();
        harp.draw(6, 900);
        harp.chord(5, 400, 900, 440, 0);
        Scenes.steadyWeather(harp, 20, 0);
        Check.equal("holds", harp.holds(0), 7);
    }

    private static void foresee() {
        WedgeHarps harp = new WedgeHarps();
        harp.push(3, 2);
        Check.equal("in calm", harp.foresee(200, 4), 386);
        Scenes.steadyWeather(harp, 0, 5);
        Check.equal("behind an hour", harp.foresee(1, 4), 385);
        Check.equal("behind 29 hours", harp.foresee(29, 4), 357);
        Check.equal("behind 31 hours", harp.foresee(31, 4), 356);
        Scenes.steadyWeather(harp, 0, 6);
        Check.equal("drifting", harp.foresee(40, 4), 396);
        harp.setWeather(0, 0, 0);
        harp.pass(1);
        Check.equal("from the hour 1 on", harp.foresee(11, 4), 386);
        Check.equal("till behind the hour 12", harp.foresee(12, 4), 387);
    }

    private static void foreseeBreaking() {
        WedgeHarps harp = breakingInHour201();
        Check.equal("behind 200 hours", harp.foresee(200, 11), 850);
        harp.pass(1);
        Check.equal("behind 199 hours", harp.foresee(199, 11), 850);
        Check.equal("broken behind 200 hours", harp.foresee(200, 11), 0);
        harp.pass(200);
        Check.equal("a broken string", harp.foresee(1, 11), 0);
    }

    /** "the mean tone of all strings that are whole; 0 if none is". */
    private static void mean() {
        WedgeHarps harp = new WedgeHarps();
        Check.equal("mean of a new harp", harp.mean(), 410.0);
        harp.push(0, 1);
        Check.equal("mean with a push", harp.mean(), 4933.0 / 12);
        WedgeHarps broken = Scenes.broken(6);
        Check.equal("mean of 11, two of them drifted", broken.mean(), 4498.0 / 11);
        for (int k = 0; k < 12; k++) {
            broken.draw(k, 900);
        }
        Scenes.passIn(broken, 7, 20, 0);
        Check.equal("mean of none", broken.mean(), 0.0);
        broken.draw(3, 333);
        Check.equal("mean of one", broken.mean(), 333.0);
    }

    /** The checksums are reckoned outside Java from the document's list of numbers. */
    private static void digest() {
        WedgeHarps harp = new WedgeHarps();
        Check.equal("digest of a new harp", harp.digest(), NEW_DIGEST);
        harp.setWeather(3, 20, 9);
        harp.chord(10, 1, 1500, 0, 0);
        harp.chord(0, 300, 320, 345, 0);
        Check.equal("digest with chords and weather", harp.digest(), TOLD_DIGEST);
        harp.setWeather(3, 0, 0);
        Check.equal("digest with other weather", harp.digest() == TOLD_DIGEST, false);
    }

    /** "nothing is changed". */
    private static void nothingIsChanged() {
        WedgeHarps harp = Scenes.tight();
        harp.chord(4, 640, 1220, 660, 0);
        for (int hour = 0; hour < 12; hour++) {
            harp.setWeather(hour, 20 - hour, hour % 10);
        }
        harp.pass(2);
        long before = harp.digest();
        harp.bears(5);
        Check.equal("digest behind bears", harp.digest(), before);
        Check.equal("first", harp.first(), 5);
        Check.equal("digest behind first", harp.digest(), before);
        harp.holds(0);
        Check.equal("digest behind holds", harp.digest(), before);
        harp.foresee(200, 5);
        Check.equal("digest behind foresee", harp.digest(), before);
        harp.mean();
        Check.equal("digest behind mean", harp.digest(), before);
        Check.equal("first again", harp.first(), 5);
    }

    /** "the damp as the table tells it": that of the hours from now on, the hour 3, and not of those from 0 on. */
    private static void bearsByTheHoursDamp() {
        WedgeHarps harp = strainedInHour3(432);
        Check.equal("dry in all hours", harp.bears(11), 13);
        for (int hour = 0; hour < 3; hour++) {
            harp.setWeather(hour, 20, 5);
        }
        Check.equal("damp in the hours 12 to 14 and 24 to 26", harp.bears(11), 14);
        WedgeHarps other = strainedInHour3(430);
        Check.equal("dry in all hours", other.bears(11), 14);
        for (int hour = 0; hour < 8; hour++) {
            other.setWeather(hour, 20, 6);
        }
        Check.equal("damp in all hours, but for 8 to 11 and 20 to 23", other.bears(11), 13);
    }

    private static WedgeHarps strainedInHour3(int base) {
        WedgeHarps harp = new WedgeHarps();
        harp.draw(11, base);
        Scenes.passIn(harp, 3, 20, 0);
        Check.equal("strain of the base " + base, harp.string(11, 3), 18);
        return harp;
    }

    /** "The greatest wind, 0 to 20": 20 for all whom no wind breaks, -1 for a broken one (calm breaks none). */
    private static void bearsAtItsEnds() {
        WedgeHarps harp = new WedgeHarps();
        harp.draw(3, 300);
        harp.draw(4, 349);
        harp.draw(5, 350);
        Check.equal("96 more in 24 hours", harp.bears(3), 20);
        Check.equal("4 more in each of 24 hours", harp.bears(4), 20);
        Check.equal("5 more in each hour", harp.bears(5), 19);
        WedgeHarps none = Scenes.allBroken();
        for (int k = 0; k < 12; k++) {
            Check.equal("broken string " + k, none.bears(k), -1);
        }
    }

    /** "of several in the same hour the one with the smallest number": 0 of all; 10 of the last two. */
    private static void firstOfAll() {
        WedgeHarps harp = new WedgeHarps();
        for (int k = 0; k < 12; k++) {
            harp.draw(k, 900);
        }
        Scenes.steadyWeather(harp, 20, 0);
        Check.equal("all of them", harp.first(), 0);
        harp.pass(6);
        Check.equal("all of them, in the next hour", harp.first(), 0);
        harp.draw(0, 300);
        Check.equal("all but the string 0", harp.first(), 1);
        for (int k = 1; k < 10; k++) {
            harp.draw(k, 100);
        }
        Check.equal("the last two", harp.first(), 10);
        harp.draw(10, 100);
        Check.equal("the last one", harp.first(), 11);
        harp.draw(11, 100);
        Check.equal("none of these, but the string 0 later on", harp.first(), 0);
    }

    /** "behind how many hours it does not sound for the first time": a string beside the chord may break before. */
    private static void holdsBesideABreakingString() {
        WedgeHarps harp = new WedgeHarps();
        harp.draw(4, 900);
        harp.draw(3, 140);
        harp.draw(2, 100);
        harp.chord(2, 100, 140, 0, 0);
        harp.chord(3, 140, 900, 0, 0);
        Scenes.steadyWeather(harp, 20, 0);
        Check.equal("beside it", harp.holds(0), -1);
        Check.equal("with it", harp.holds(1), 7);
        Check.equal("it breaks behind 7 hours", harp.pass(6) * 100 + harp.pass(1), 1);
        Check.equal("beside the broken one", harp.holds(0), -1);
        Check.equal("with the broken one", harp.holds(1), 0);
    }

    /** "its tone behind so many hours": 0 from the hour on in which it breaks. */
    private static void foreseeTheHourOfBreaking() {
        WedgeHarps harp = new WedgeHarps();
        harp.draw(0, 900);
        Scenes.steadyWeather(harp, 20, 0);
        Check.equal("behind 1 hour", harp.foresee(1, 0), 900);
        Check.equal("behind 6 hours", harp.foresee(6, 0), 897);
        Check.equal("behind 7 hours", harp.foresee(7, 0), 0);
        Check.equal("behind 200 hours", harp.foresee(200, 0), 0);
        harp.pass(6);
        Check.equal("its tone", harp.string(0, 5), 897);
        Check.equal("behind the next hour", harp.foresee(1, 0), 0);
    }

    /** "which wraps around as a 64-bit integer": reckoned without an end, and cut to 64 bits then. */
    private static void digestWrapsAround() {
        digestOf(new WedgeHarps(), new int[0][], new int[12]);
        int[] weather = new int[12];
        for (int hour = 0; hour < 12; hour++) {
            weather[hour] = 10 * (11 - hour) + (5 * hour + 2) % 10;
        }
        WedgeHarps lively = Scenes.lively();
        int a = lively.string(8, 5);
        int b = lively.string(9, 5) - 5;
        digestOf(lively, new int[][] {{0, 290, 400, 500}, {5, 300, 3, 1500, 1}, {8, a, b}}, weather);
        digestOf(Scenes.livelyAndFull(), new int[][] {{0, 290, 400, 500}, {5, 300, 3, 1500, 1}, {8, a, b},
            {0, 300, 400}, {10, 500, 700}, {3, 300, 1, 1, 1500}}, weather);
        WedgeHarps strained = Scenes.tight();
        Scenes.passIn(strained, 20, 5, 0);
        Scenes.steadyWeather(strained, 0, 9);
        Check.equal("a drift of less than 0", strained.string(5, 2) < 0, true);
        Arrays.fill(weather, 9);
        digestOf(strained, new int[0][], weather);
    }

    /** Each chord is a row of its first string and its tones. */
    private static void digestOf(WedgeHarps harp, int[][] chords, int[] weather) {
        BigInteger d = BigInteger.valueOf(947);
        for (int what = 0; what < 8; what++) {
            d = longer(d, harp.count(what));
        }
        for (int k = 0; k < 12; k++) {
            for (int what = 0; what < 7; what++) {
                d = longer(d, harp.string(k, what));
            }
        }
        for (int at : weather) {
            d = longer(d, at);
        }
        for (int i = 0; i < chords.length; i++) {
            d = longer(longer(d, chords[i][0]), chords[i].length - 1);
            for (int place = 1; place < chords[i].length; place++) {
                d = longer(d, chords[i][place]);
            }
            d = longer(d, harp.off(i));
        }
        Check.equal("more than 64 bits", d.bitLength() > 64, true);
        Check.equal("digest of " + chords.length + " chords", harp.digest(), d.longValue());
    }

    private static BigInteger longer(BigInteger d, int x) {
        return d.multiply(BigInteger.valueOf(31)).add(BigInteger.valueOf(x));
    }
}
