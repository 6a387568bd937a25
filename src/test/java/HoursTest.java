/** Promises 11 and 12: how hours go, and what is counted. */
final class HoursTest {
    private HoursTest() {
    }

    public static void main(String[] args) {
        calmHours();
        tableByRemainder();
        tableGoesRound();
        strainAndBreaking();
        strainOfExactly100();
        strainIsCutTowards0();
        brokenInDamp();
        strainAtLeast0();
        strainOf1To3InCalm();
        drift();
        driftFrom50OfStrain();
        driftIsHeld();
        driftLeavesItsEnds();
        swelling();
        swellingFrom5OfDamp();
        toneAheadOfTheSwelling();
        toneAheadOfTheDrift();
        countsAtTheirEnds();
        hoursWithoutStrings();
        breakingIsToldInAll();
        Check.end("HoursTest");
    }

    private static void calmHours() {
        WedgeHarps harp = new WedgeHarps();
        Check.equal("pass(1)", harp.pass(1), 0);
        Check.equal("pass(200)", harp.pass(200), 0);
        Check.equal("the hour", harp.count(0), 201);
        for (int k = 0; k < 12; k++) {
            Check.equal("tone of " + k + " behind calm hours", harp.string(k, 5), 300 + 20 * k);
        }
    }

    private static void tableByRemainder() {
        WedgeHarps harp = new WedgeHarps();
        harp.setWeather(3, 20, 0);
        harp.pass(3);
        Check.equal("strain ahead of the hour 3", harp.string(0, 3), 0);
        harp.pass(1);
        Check.equal("strain behind the hour 3", harp.string(0, 3), 4);
        harp.pass(11);
        Check.equal("strain ahead of the hour 15", harp.string(0, 3), 0);
        harp.pass(1);
        Check.equal("strain behind the hour 15", harp.string(0, 3), 4);
    }

    /** Strains 16, 32, 48, 64; then 17 - 2 a hour, as the drift makes the tone less than 900. */
    private static void strainAndBreaking() {
        WedgeHarps harp = new WedgeHarps();
        harp.draw(0, 900);
        Scenes.steadyWeather(harp, 20, 0);
        int[] strains = {16, 32, 48, 64, 79, 94};
        int[] drifts = {0, 0, 0, -1, -2, -3};
        for (int h = 0; h < strains.length; h++) {
            Check.equal("breaks in hour " + h, harp.pass(1), 0);
            Check.equal("strain behind hour " + h, harp.string(0, 3), strains[h]);
            Check.equal("drift behind hour " + h, harp.string(0, 2), drifts[h]);
        }
        Check.equal("breaks in the seventh hour", harp.pass(1), 1);
        int[] facts = {900, 0, 0, 0, 0, 0, 1};
        for (int what = 0; what < 7; what++) {
            Check.equal("broken: string(0, " + what + ")", harp.string(0, what), facts[what]);
        }
        Check.equal("whole strings", harp.count(1), 11);
        Scenes.passIn(harp, 5, 20, 9);
        Check.equal("strain of a broken string", harp.string(0, 3), 0);
        Check.equal("drift of a broken string", harp.string(0, 2), 0);
        Check.equal("a broken string breaks once", harp.string(0, 6), 1);
    }

    /** "With more than 100 it breaks": 22 an hour up to 88 (drift -2 then), and 12 or 13 more from a tone of 1218. */
    private static void strainOfExactly100() {
        WedgeHarps harp = Scenes.tight();
        Scenes.passIn(harp, 4, 20, 0);
        Check.equal("strain behind 4 hours", harp.string(5, 3), 88);
        Check.equal("tone behind 4 hours", harp.string(5, 5), 1218);
        Check.equal("breaks with 100", Scenes.passIn(harp, 1, 12, 0), 0);
        Check.equal("strain of 100", harp.string(5, 3), 100);

        WedgeHarps other = Scenes.tight();
        Scenes.passIn(other, 4, 20, 0);
        Check.equal("breaks with 101", Scenes.passIn(other, 1, 13, 0), 1);
        Check.equal("strain of a broken string", other.string(5, 3), 0);
    }

    private static void strainAtLeast0() {
        WedgeHarps harp = new WedgeHarps();
        harp.draw(0, 100);
        Scenes.passIn(harp, 1, 10, 0);
        Check.equal("1 more and 2 less from 0", harp.string(0, 3), 0);
        Scenes.passIn(harp, 1, 20, 0);
        Check.equal("2 more and 2 less from 0", harp.string(0, 3), 0);
        Check.equal("10 more and 2 less from 3", harp.string(11, 3), 3 + 8);
        Scenes.passIn(harp, 5, 0, 0);
        Check.equal("2 less an hour", harp.string(11, 3), 1);
        harp.pass(1);
        Check.equal("at least 0", harp.string(11, 3), 0);
    }

    /** "with a damp of 6 or more 1 more". */
    private static void drift() {
        WedgeHarps harp = new WedgeHarps();
        Scenes.passIn(harp, 1, 0, 5);
        Check.equal("drift with a damp of 5", harp.string(4, 2), 0);
        Scenes.passIn(harp, 1, 0, 6);
        Check.equal("drift with a damp of 6", harp.string(4, 2), 1);
        Check.equal("tone with drift 1 and swelling 2", harp.string(4, 5), 379);
        Scenes.passIn(harp, 1, 0, 9);
        Check.equal("drift with a damp of 9", harp.string(4, 2), 2);
        Scenes.passIn(harp, 3, 0, 0);
        Check.equal("drift stays in dry hours", harp.string(4, 2), 2);
    }

    /** "with a strain of 50 or more its drift is 1 less, otherwise". */
    private static void driftFrom50OfStrain() {
        WedgeHarps harp = Scenes.tight();
        Scenes.passIn(harp, 2, 20, 0);
        Scenes.passIn(harp, 1, 6, 0);
        Check.equal("strain of 49", harp.string(5, 3), 49);
        Check.equal("drift with it", harp.string(5, 2), 0);

        WedgeHarps other = Scenes.tight();
        Scenes.passIn(other, 2, 20, 0);
        Scenes.passIn(other, 1, 7, 9);
        Check.equal("strain of 50", other.string(5, 3), 50);
        Check.equal("drift with it, though it is damp", other.string(5, 2), -1);
        Check.equal("drift of a string with less", other.string(0, 2), 1);
    }

    /** "held at -50 to 50": with a wind of 2 the strain of a tone of 1000 to 1499 stays as it is. */
    private static void driftIsHeld() {
        WedgeHarps harp = Scenes.tight();
        Scenes.passIn(harp, 4, 20, 0);
        Scenes.passIn(harp, 47, 2, 0);
        Check.equal("drift behind 49 strained hours", harp.string(5, 2), -49);
        harp.pass(1);
        Check.equal("drift behind 50 strained hours", harp.string(5, 2), -50);
        harp.pass(1);
        Check.equal("drift is at least -50", harp.string(5, 2), -50);

        WedgeHarps damp = new WedgeHarps();
        Scenes.passIn(damp, 50, 0, 6);
        Check.equal("drift behind 50 damp hours", damp.string(0, 2), 50);
        damp.pass(1);
        Check.equal("drift is at most 50", damp.string(0, 2), 50);
    }

    /** "held at 0 to 30". */
    private static void swelling() {
        WedgeHarps harp = new WedgeHarps();
        Scenes.passIn(harp, 1, 0, 4);
        Check.equal("swelling is at least 0", harp.count(4), 0);
        Scenes.passIn(harp, 29, 0, 5);
        Check.equal("swelling behind 29 damp hours", harp.count(4), 29);
        Check.equal("tone with it", harp.string(0, 5), 271);
        harp.pass(1);
        Check.equal("swelling behind 30 damp hours", harp.count(4), 30);
        harp.pass(1);
        Check.equal("swelling is at most 30", harp.count(4), 30);
        Scenes.passIn(harp, 1, 0, 4);
        Check.equal("swelling behind a dry hour", harp.count(4), 29);
        harp.pass(28);
        Check.equal("swelling behind 29 dry hours", harp.count(4), 1);
    }

    /** "with its tone ahead of this step", and behind the swelling of the hour before. */
    private static void toneAheadOfTheSwelling() {
        WedgeHarps harp = new WedgeHarps();
        Scenes.passIn(harp, 1, 10, 9);
        Check.equal("strain by the tone 300", harp.string(0, 3), 1);
        Check.equal("strain by the tone 400", harp.string(5, 3), 2);
        Scenes.passIn(harp, 1, 0, 5);
        Scenes.passIn(harp, 1, 10, 0);
        Check.equal("strain by the tone 299", harp.string(0, 3), 0);
        Check.equal("strain by the tone 399", harp.string(5, 3), 1);
    }

    private static void breakingIsToldInAll() {
        WedgeHarps harp = new WedgeHarps();
        harp.draw(2, 900);
        harp.draw(8, 900);
        for (int k = 9; k < 12; k++) {
            harp.draw(k, 100);
        }
        harp.push(3, 2);
        harp.push(8, 1);
        harp.chord(0, 300, 320, 0, 0);
        harp.chord(0, 300, 340, 0, 0);
        Check.equal("chords", harp.count(2), 2);
        Check.equal("chords that sound", harp.count(3), 1);
        Check.equal("steps of all wedges", harp.count(5), 3);
        Check.equal("breaks", Scenes.passIn(harp, 7, 20, 0), 2);
        Check.equal("whole strings", harp.count(1), 10);
        Check.equal("breaks in all", harp.count(7), 2);
        Check.equal("steps of all wedges, broken strings' too", harp.count(5), 3);
        Check.equal("strain of all strings", harp.count(6), strainOfAll(harp));
        harp.draw(2, 900);
        Check.equal("whole strings, one drawn anew", harp.count(1), 11);
        Check.equal("breaks of 7 hours more", harp.pass(7) + harp.string(2, 6), 1 + 2);
        Check.equal("breaks in all, one string twice", harp.count(7), 3);
        Check.equal("the hour", harp.count(0), 14);
    }

    private static int strainOfAll(WedgeHarps harp) {
        int sum = 0;
        for (int k = 0; k < 12; k++) {
            sum += harp.string(k, 3);
        }
        return sum;
    }

    /** "the hour by the remainder of 12": 11 is the last one of the table, and behind it comes the first one again. */
    private static void tableGoesRound() {
        WedgeHarps harp = new WedgeHarps();
        harp.setWeather(0, 20, 0);
        harp.setWeather(11, 10, 0);
        harp.pass(1);
        Check.equal("strain behind the hour 0", harp.string(11, 3), 8);
        harp.pass(10);
        Check.equal("strain ahead of the hour 11", harp.string(11, 3), 0);
        harp.pass(1);
        Check.equal("strain behind the hour 11", harp.string(11, 3), 3);
        harp.pass(1);
        Check.equal("strain behind the hour 12", harp.string(11, 3), 11);
        harp.pass(187);
        for (int i = 0; i < 5; i++) {
            harp.pass(200);
        }
        Check.equal("a late hour", harp.count(0), 1200);
        Check.equal("strain behind the hour 1199", harp.string(11, 3), 3);
        harp.pass(1);
        Check.equal("strain behind the hour 1200", harp.string(11, 3), 11);
        harp.pass(1);
        Check.equal("strain behind the hour 1201", harp.string(11, 3), 9);
    }

    /** "wind * tone / 1000", cut towards 0: on both sides of whole numbers. */
    private static void strainIsCutTowards0() {
        int[][] cases = {{499, 20, 7}, {500, 20, 8}, {550, 20, 9}, {549, 20, 8}, {333, 9, 0}, {334, 9, 1}};
        for (int[] one : cases) {
            WedgeHarps harp = new WedgeHarps();
            harp.draw(5, one[0]);
            Scenes.passIn(harp, 1, one[1], 0);
            Check.equal("strain of a tone of " + one[0] + " in a wind of " + one[1], harp.string(5, 3), one[2]);
        }
        WedgeHarps harp = new WedgeHarps();
        harp.push(5, 10);
        harp.draw(5, 899);
        Scenes.passIn(harp, 1, 9, 0);
        Check.equal("strain of a tone of 999 in a wind of 9", harp.string(5, 3), 6);
        harp.draw(5, 900);
        harp.pass(1);
        Check.equal("strain of a tone of 1000 in a wind of 9", harp.string(5, 3), 7);
    }

    /** "its strain and drift are 0 then": also in an hour that is damp enough for drift, and in those behind it. */
    private static void brokenInDamp() {
        WedgeHarps harp = new WedgeHarps();
        harp.draw(0, 900);
        Scenes.passIn(harp, 3, 0, 9);
        Check.equal("breaks in six hours", Scenes.passIn(harp, 6, 20, 9), 0);
        Check.equal("drift behind them", harp.string(0, 2), 3);
        Check.equal("breaks in the seventh", harp.pass(1), 1);
        Check.equal("drift of the broken string", harp.string(0, 2), 0);
        Check.equal("strain of the broken string", harp.string(0, 3), 0);
        Check.equal("drift of a whole one", harp.string(1, 2), 10);
        harp.pass(3);
        Check.equal("drift of the broken string, damp hours on", harp.string(0, 2), 0);
        Check.equal("strain of the broken string, windy hours on", harp.string(0, 3), 0);
        Check.equal("breaks of the broken string", harp.string(0, 6), 1);
    }

    /** "and then 2 less (at least 0)". */
    private static void strainOf1To3InCalm() {
        int[][] cases = {{6, 1, 0}, {8, 2, 0}, {10, 3, 1}};
        for (int[] one : cases) {
            WedgeHarps harp = new WedgeHarps();
            Scenes.passIn(harp, 1, one[0], 0);
            Check.equal("strain behind a wind of " + one[0], harp.string(11, 3), one[1]);
            Scenes.passIn(harp, 1, 0, 0);
            Check.equal("strain behind calm", harp.string(11, 3), one[2]);
        }
    }

    /** "it is held at -50 to 50": held, it goes back by one as from any other number. */
    private static void driftLeavesItsEnds() {
        WedgeHarps harp = Scenes.tight();
        Scenes.passIn(harp, 60, 0, 6);
        Check.equal("drift behind 60 damp hours", harp.string(5, 2), 50);
        Scenes.passIn(harp, 2, 20, 0);
        Check.equal("strain of less than 50", harp.string(5, 3), 44);
        Check.equal("drift with it", harp.string(5, 2), 50);
        harp.pass(1);
        Check.equal("strain of more than 50", harp.string(5, 3), 66);
        Check.equal("drift with it", harp.string(5, 2), 49);

        WedgeHarps other = Scenes.tight();
        Scenes.passIn(other, 4, 20, 0);
        Scenes.passIn(other, 60, 2, 0);
        Check.equal("drift behind 62 strained hours", other.string(5, 2), -50);
        Check.equal("strain behind them", other.string(5, 3), 88);
        Scenes.passIn(other, 19, 0, 6);
        Check.equal("strain of 50", other.string(5, 3), 50);
        Check.equal("drift with it", other.string(5, 2), -50);
        other.pass(1);
        Check.equal("strain of 48", other.string(5, 3), 48);
        Check.equal("drift with it", other.string(5, 2), -49);
    }

    /** "1 more with a damp of 5 or more, otherwise 1 less", by the table's hours. */
    private static void swellingFrom5OfDamp() {
        WedgeHarps harp = new WedgeHarps();
        int[] damps = {4, 5, 6, 9, 4, 0, 5, 3, 1, 0, 2, 9};
        int[] swellings = {0, 1, 2, 3, 2, 1, 2, 1, 0, 0, 0, 1};
        int[] drifts = {0, 0, 1, 2, 2, 2, 2, 2, 2, 2, 2, 3};
        for (int hour = 0; hour < 12; hour++) {
            harp.setWeather(hour, 0, damps[hour]);
        }
        for (int hour = 0; hour < 12; hour++) {
            harp.pass(1);
            Check.equal("swelling behind the hour " + hour, harp.count(4), swellings[hour]);
            Check.equal("drift behind the hour " + hour, harp.string(0, 2), drifts[hour]);
            Check.equal("tone behind the hour " + hour, harp.string(0, 5), 300 + drifts[hour] - swellings[hour]);
        }
    }

    /** "with its tone ahead of this step": 349 strains by 6, and 350, which it has behind the second step, by 7. */
    private static void toneAheadOfTheDrift() {
        WedgeHarps harp = new WedgeHarps();
        harp.draw(0, 349);
        harp.draw(1, 350);
        Scenes.passIn(harp, 1, 20, 6);
        Check.equal("strain by the tone 349", harp.string(0, 3), 4);
        Check.equal("strain by the tone 350", harp.string(1, 3), 5);
        Check.equal("tone behind drift and swelling", harp.string(0, 5), 349);
        WedgeHarps swelling = new WedgeHarps();
        swelling.draw(1, 350);
        Scenes.passIn(swelling, 1, 20, 5);
        Check.equal("strain by the tone 350, ahead of the swelling", swelling.string(1, 3), 5);
        Check.equal("tone behind the swelling", swelling.string(1, 5), 349);
    }

    private static void countsAtTheirEnds() {
        WedgeHarps harp = new WedgeHarps();
        Check.equal("steps of all wedges, the fewest", harp.count(5), 0);
        for (int i = 0; i < 6; i++) {
            Scenes.tell(harp, i, Scenes.tonesFrom(harp, i, 2));
            Check.equal("chords", harp.count(2), i + 1);
            Check.equal("chords that sound", harp.count(3), i + 1);
        }
        for (int k = 0; k < 12; k++) {
            harp.push(k, 20);
        }
        Check.equal("steps of all wedges, the most", harp.count(5), 240);
        Check.equal("chords, the most", harp.count(2), 6);
        Check.equal("chords that sound, none", harp.count(3), 0);
    }

    /** "how many strings break in them": all, and none where none is whole. */
    private static void hoursWithoutStrings() {
        WedgeHarps harp = new WedgeHarps();
        for (int k = 0; k < 12; k++) {
            harp.draw(k, 900);
        }
        Check.equal("none break in six hours", Scenes.passIn(harp, 6, 20, 0), 0);
        Check.equal("whole strings", harp.count(1), 12);
        Check.equal("all break in the seventh", harp.pass(1), 12);
        Check.equal("whole strings", harp.count(1), 0);
        Check.equal("strain of all strings", harp.count(6), 0);
        Check.equal("strings that broke in all", harp.count(7), 12);
        Check.equal("none is left to break", Scenes.passIn(harp, 200, 20, 9), 0);
        Check.equal("strings that broke in all", harp.count(7), 12);
        Check.equal("the hour", harp.count(0), 207);
        Check.equal("the swelling", harp.count(4), 30);
    }
}
