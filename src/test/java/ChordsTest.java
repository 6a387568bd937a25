/** Promises 7 to 10: chords. */
final class ChordsTest {
    private ChordsTest() {
    }

    public static void main(String[] args) {
        chord();
        off();
        sounds();
        soundsInEachPlace();
        brokenChord();
        brokenInEachPlace();
        steps();
        stepsAtTheirReach();
        stepsReachInEachPlace();
        stepsOfAllWedges();
        stepsKeepToTheWedgesEnds();
        stepsAtTheWedgesEnds();
        stepsOfTheChordAlone();
        Check.end("ChordsTest");
    }

    /** "a row of 2 to 4 tones, 1 to 1500 each, for as many strings side by side", up to the last string. */
    private static void chord() {
        WedgeHarps harp = new WedgeHarps();
        Check.equal("two tones, at the last strings", harp.chord(10, 1, 1500, 0, 0), 0);
        Check.equal("three tones, at the last strings", harp.chord(9, 1500, 1, 1, 0), 1);
        Check.equal("four tones, at the last strings", harp.chord(8, 1, 1, 1500, 1), 2);
        Check.equal("four tones, at the first strings", harp.chord(0, 1, 1, 1, 1500), 3);
        Check.equal("the same one again", harp.chord(0, 1, 1, 1, 1500), 4);
        Check.equal("chords", harp.count(2), 5);
        Check.equal("off(0)", harp.off(0), 499 + 980);
        Check.equal("off(1)", harp.off(1), 1020 + 499 + 519);
        Check.equal("off(2)", harp.off(2), 459 + 479 + 1000 + 519);
        Check.equal("off(3)", harp.off(3), 299 + 319 + 339 + 1140);
    }

    /** "the differences of the tones of its strings from these, each without the sign, added". */
    private static void off() {
        WedgeHarps harp = new WedgeHarps();
        harp.chord(4, 370, 410, 420, 441);
        Check.equal("off to both sides", harp.off(0), 10 + 10 + 0 + 1);
        harp.push(8, 1);
        Check.equal("off, pressed from outside", harp.off(0), 10 + 10 + 0 + 2);
        harp.push(5, 1);
        Check.equal("off, pushed", harp.off(0), 13 + 0 + 3 + 2);
    }

    private static void sounds() {
        WedgeHarps harp = new WedgeHarps();
        harp.chord(4, 375, 405, 415, 445);
        harp.chord(4, 374, 400, 0, 0);
        harp.chord(3, 360, 386, 0, 0);
        harp.chord(3, 360, 380, 400, 426);
        Check.equal("each differs by 5", harp.sounds(0), true);
        Check.equal("the first is 6 above", harp.sounds(1), false);
        Check.equal("the second is 6 below", harp.sounds(2), false);
        Check.equal("the fourth is 6 below", harp.sounds(3), false);
        Check.equal("chords that sound", harp.count(3), 1);
        harp.push(8, 1);
        Check.equal("pressed by 3 from outside", harp.sounds(0), true);
        harp.push(3, 1);
        Check.equal("pressed past 5 from outside", harp.sounds(0), false);
    }

    private static void brokenChord() {
        WedgeHarps harp = Scenes.broken(6);
        harp.chord(6, 5, 440, 0, 0);
        harp.chord(5, 400, 3, 0, 0);
        harp.chord(5, 400, 900, 0, 0);
        Check.equal("off with a broken string", harp.off(0), 5);
        Check.equal("a broken string sounds in no chord", harp.sounds(0), false);
        Check.equal("nor as the second one", harp.sounds(1), false);
        Check.equal("off by the whole tone", harp.off(2), 900);
        for (int i = 0; i < 3; i++) {
            Check.equal("steps of broken chord " + i, harp.steps(i), -1);
        }
        harp.draw(6, 900);
        Check.equal("drawn anew", harp.sounds(2), true);
    }

    /** "0 if it sounds", and "nothing is changed". */
    private static void steps() {
        WedgeHarps harp = new WedgeHarps();
        harp.chord(0, 305, 315, 0, 0);
        harp.chord(0, 310, 330, 0, 0);
        harp.chord(3, 360, 390, 400, 0);
        harp.chord(8, 476, 512, 539, 539);
        long before = harp.digest();
        Check.equal("none for a chord that sounds", harp.steps(0), 0);
        Check.equal("one each for two", harp.steps(1), 2);
        Check.equal("one in the middle, within 3 of the rest", harp.steps(2), 1);
        Check.equal("1 under 8, 2 under 9, 3 under 10, 1 under 11", harp.steps(3), 7);
        Check.equal("steps changes nothing", harp.digest(), before);
        harp.push(9, 4);
        harp.push(10, 4);
        Check.equal("steps back and forth", harp.steps(3), 1 + 2 + 1 + 1);
    }

    /** "-1 if none do". */
    private static void stepsAtTheirReach() {
        WedgeHarps harp = new WedgeHarps();
        harp.chord(0, 345, 332, 0, 0);
        harp.chord(0, 355, 335, 0, 0);
        Check.equal("4 steps under one string", harp.steps(0), 4);
        Check.equal("5 steps under one string are too many", harp.steps(1), -1);
        harp.push(0, 10);
        Check.equal("5 steps back are too many", harp.steps(0), -1);
        harp.push(0, -1);
        Check.equal("4 steps back", harp.steps(0), 4);
    }

    private static void stepsAtTheWedgesEnds() {
        WedgeHarps harp = new WedgeHarps();
        harp.chord(5, 394, 417, 0, 0);
        Check.equal("no step back from 0", harp.steps(0), -1);
        harp.draw(5, 390);
        harp.push(5, 1);
        Check.equal("a step back to 0", harp.steps(0), 1);
        harp.push(9, 20);
        harp.chord(9, 686, 563, 0, 0);
        Check.equal("no step forth from 20", harp.steps(1), -1);
        harp.push(9, -1);
        harp.chord(9, 676, 558, 0, 0);
        Check.equal("a step forth to 20", harp.steps(2), 1);
    }

    /** "if just the wedges of its strings are pushed". */
    private static void stepsOfTheChordAlone() {
        WedgeHarps harp = new WedgeHarps();
        harp.chord(1, 326, 335, 0, 0);
        Check.equal("a step under 0 would do, but it is not in the chord", harp.steps(0), -1);
        harp.push(0, 1);
        Check.equal("it does", harp.steps(0), 0);
        harp.chord(7, 440, 466, 0, 0);
        harp.push(9, 1);
        Check.equal("pressed from above already", harp.steps(1), 0);
    }

    /** "each one differs by at most 5": in each place of a chord, to either side. */
    private static void soundsInEachPlace() {
        for (int size = 2; size <= 4; size++) {
            for (int place = 0; place < size; place++) {
                for (int side = -1; side <= 1; side += 2) {
                    int[] tones = Scenes.tonesFrom(new WedgeHarps(), 3, size);
                    tones[place] += 5 * side;
                    WedgeHarps harp = new WedgeHarps();
                    Scenes.tell(harp, 3, tones);
                    tones[place] += side;
                    Scenes.tell(harp, 3, tones);
                    String at = " in the place " + place + " of " + size + ", side " + side;
                    Check.equal("sounds, 5 off" + at, harp.sounds(0), true);
                    Check.equal("off by 5" + at, harp.off(0), 5);
                    Check.equal("steps of 0" + at, harp.steps(0), 0);
                    Check.equal("holds, 5 off" + at, harp.holds(0), -1);
                    Check.equal("sounds, 6 off" + at, harp.sounds(1), false);
                    Check.equal("off by 6" + at, harp.off(1), 6);
                    Check.equal("holds, 6 off" + at, harp.holds(1), 0);
                    Check.equal("chords that sound" + at, harp.count(3), 1);
                }
            }
        }
    }

    /** "It sounds, if its strings are whole": a broken one differs by 5 or less from a tone of 1 to 5, but is not. */
    private static void brokenInEachPlace() {
        for (int place = 0; place < 4; place++) {
            WedgeHarps harp = Scenes.broken(6);
            int[] tones = Scenes.tonesFrom(harp, 6 - place, 4);
            tones[place] = 1;
            Scenes.tell(harp, 6 - place, tones);
            tones[place] = 5;
            Scenes.tell(harp, 6 - place, tones);
            for (int chord = 0; chord < 2; chord++) {
                String at = " with a broken string in the place " + place;
                Check.equal("off" + at, harp.off(chord), tones[place] - 4 * (1 - chord));
                Check.equal("sounds" + at, harp.sounds(chord), false);
                Check.equal("steps" + at, harp.steps(chord), -1);
                Check.equal("holds" + at, harp.holds(chord), 0);
            }
            Check.equal("chords that sound", harp.count(3), 0);
        }
        WedgeHarps harp = Scenes.broken(6);
        Scenes.tell(harp, 2, Scenes.tonesFrom(harp, 2, 4));
        Scenes.tell(harp, 7, Scenes.tonesFrom(harp, 7, 3));
        Check.equal("chords beside a broken string sound", harp.count(3), 2);
        Check.equal("and hold", harp.holds(0) + harp.holds(1), -2);
    }

    /** "each one by at most 4 steps to either side": in each place of a chord. */
    private static void stepsReachInEachPlace() {
        for (int size = 2; size <= 4; size++) {
            for (int place = 0; place < size; place++) {
                for (int side = -1; side <= 1; side += 2) {
                    int[] fourAway = tonesPushed(size, place, 4 * side);
                    int[] fiveAway = tonesPushed(size, place, 5 * side);
                    WedgeHarps harp = allAt10();
                    Scenes.tell(harp, 4, fourAway);
                    Scenes.tell(harp, 4, fiveAway);
                    String at = " steps under the place " + place + " of " + size + ", side " + side;
                    Check.equal("4" + at, harp.steps(0), 4);
                    Check.equal("5" + at, harp.steps(1), -1);
                }
            }
        }
    }

    private static WedgeHarps allAt10() {
        WedgeHarps harp = new WedgeHarps();
        for (int k = 0; k < 12; k++) {
            harp.push(k, 10);
        }
        return harp;
    }

    private static int[] tonesPushed(int size, int place, int steps) {
        WedgeHarps harp = allAt10();
        harp.push(4 + place, steps);
        return Scenes.tonesFrom(harp, 4, size);
    }

    /** Each of the four wedges by 4: 5 more on each tone need all of the 16 steps, 6 more are out of reach. */
    private static void stepsOfAllWedges() {
        for (int side = -1; side <= 1; side += 2) {
            WedgeHarps pushed = allAt10();
            for (int k = 4; k < 8; k++) {
                pushed.push(k, 4 * side);
            }
            int[] tones = Scenes.tonesFrom(pushed, 4, 4);
            WedgeHarps harp = allAt10();
            for (int more = 5; more <= 6; more++) {
                Scenes.tell(harp, 4, new int[] {tones[0] + more * side, tones[1] + more * side,
                    tones[2] + more * side, tones[3] + more * side});
            }
            Check.equal("16 steps, side " + side, harp.steps(0), 16);
            Check.equal("more than 16 steps, side " + side, harp.steps(1), -1);
        }
    }

    /** "to 0 to 20": 4 steps back lead from 4 to 0, but not from 3 to below 0; 4 forth from 16 to 20. */
    private static void stepsKeepToTheWedgesEnds() {
        int[][] cases = {{4, -4, 4}, {3, -4, -1}, {3, -3, 3}, {16, 4, 4}, {17, 4, -1}, {17, 3, 3}, {20, 0, 0}};
        for (int place = 0; place < 4; place++) {
            for (int[] one : cases) {
                WedgeHarps harp = new WedgeHarps();
                harp.push(4 + place, one[0]);
                int[] tones = Scenes.tonesFrom(harp, 4, 4);
                for (int i = 0; i < 4; i++) {
                    int apart = Math.abs(i - place);
                    tones[i] += apart == 0 ? 10 * one[1] : apart == 1 ? 3 * one[1] : 0;
                }
                Scenes.tell(harp, 4, tones);
                String call = one[1] + " steps from " + one[0] + " in the place " + place;
                Check.equal(call, harp.steps(0), one[2]);
            }
        }
    }
}
