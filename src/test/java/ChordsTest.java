/** Promises 7 to 10: chords. */
final class ChordsTest {
    private static final int LEAST = Integer.MIN_VALUE;
    private static final int MOST = Integer.MAX_VALUE;

    private ChordsTest() {
    }

    public static void main(String[] args) {
        chord();
        chordRefused();
        seventhChord();
        off();
        sounds();
        brokenChord();
        steps();
        stepsAtTheirReach();
        stepsAtTheWedgesEnds();
        stepsOfTheChordAlone();
        noSuchChord();
        Check.end("ChordsTest");
    }

    private static void chord() {
        WedgeHarps harp = new WedgeHarps();
        Check.equal("two tones, at the last strings", harp.chord(10, 1, 1500, 0, 0), 0);
        Check.equal("three tones, at the last strings", harp.chord(9, 1500, 1, 1, 0), 1);
        Check.equal("four tones, at the last strings", harp.chord(8, 1, 1, 1500, 1), 2);
        Check.equal("four tones, at the first strings", harp.chord(0, 1, 1, 1, 1500), 3);
        Check.equal("the same one again", harp.chord(0, 1, 1, 1, 1500), 4);
        Check.equal("chords", harp.count(2), 5);
        Check.equal("off(0)", harp.off(0), 499 + 980);
        Check.equal("off(1)", harp.off(1), 1020 + 499 + 519);
        Check.equal("off(2)", harp.off(2), 459 + 479 + 1000 + 519);
        Check.equal("off(3)", harp.off(3), 299 + 319 + 339 + 1140);
    }

    private static void chordRefused() {
        WedgeHarps harp = new WedgeHarps();
        for (int first : new int[] {-1, 12, LEAST, MOST}) {
            Check.outOfBounds("chord from " + first, harp, () -> harp.chord(first, 1, 1, 0, 0));
            Check.outOfBounds("chord of no tones from " + first, harp, () -> harp.chord(first, 0, 0, 0, 1));
        }
        for (int tone : new int[] {-1, 1501, LEAST, MOST}) {
            Check.badArgument("a " + tone, harp, () -> harp.chord(0, tone, 1, 1, 1));
            Check.badArgument("b " + tone, harp, () -> harp.chord(0, 1, tone, 1, 1));
            Check.badArgument("c " + tone, harp, () -> harp.chord(0, 1, 1, tone, 1));
            Check.badArgument("d " + tone, harp, () -> harp.chord(0, 1, 1, 1, tone));
            Check.badArgument("c " + tone + " without d", harp, () -> harp.chord(0, 1, 1, tone, 0));
        }
        Check.badArgument("a 0", harp, () -> harp.chord(0, 0, 1, 1, 1));
        Check.badArgument("b 0", harp, () -> harp.chord(0, 1, 0, 1, 1));
        Check.badArgument("d without c", harp, () -> harp.chord(0, 1, 1, 0, 1));
        Check.badArgument("two tones from 11", harp, () -> harp.chord(11, 1, 1, 0, 0));
        Check.badArgument("three tones from 10", harp, () -> harp.chord(10, 1, 1, 1, 0));
        Check.badArgument("four tones from 9", harp, () -> harp.chord(9, 1, 1, 1, 1));
        Check.equal("the first one behind the refused ones", harp.chord(0, 1, 1, 0, 0), 0);
    }

    private static void seventhChord() {
        WedgeHarps harp = new WedgeHarps();
        for (int i = 0; i < 6; i++) {
            Check.equal("chord " + i, harp.chord(i, 300 + 20 * i, 320 + 20 * i, 0, 0), i);
        }
        Check.badState("a seventh chord", harp, () -> harp.chord(0, 300, 320, 0, 0));
        Check.badArgument("a seventh chord of no tone", harp, () -> harp.chord(0, 0, 320, 0, 0));
        Check.badArgument("a seventh chord past the strings", harp, () -> harp.chord(11, 300, 320, 0, 0));
        Check.outOfBounds("a seventh chord from 12", harp, () -> harp.chord(12, 300, 320, 0, 0));
        Check.equal("all of them sound", harp.count(3), 6);
    }

    private static void off() {
        WedgeHarps harp = new WedgeHarps();
        harp.chord(4, 370, 410, 420, 441);
        Check.equal("off to both sides", harp.off(0), 10 + 10 + 0 + 1);
        harp.push(8, 1);
        Check.equal("off, pressed from outside", harp.off(0), 10 + 10 + 0 + 2);
        harp.push(5, 1);
        Check.equal("off, pushed", harp.off(0), 13 + 0 + 3 + 2);
    }

    private static void sounds() {
        WedgeHarps harp = new WedgeHarps();
        harp.chord(4, 375, 405, 415, 445);
        harp.chord(4, 374, 400, 0, 0);
        harp.chord(3, 360, 386, 0, 0);
        harp.chord(3, 360, 380, 400, 426);
        Check.equal("each differs by 5", harp.sounds(0), true);
        Check.equal("the first is 6 above", harp.sounds(1), false);
        Check.equal("the second is 6 below", harp.sounds(2), false);
        Check.equal("the fourth is 6 below", harp.sounds(3), false);
        Check.equal("chords that sound", harp.count(3), 1);
        harp.push(8, 1);
        Check.equal("pressed by 3 from outside", harp.sounds(0), true);
        harp.push(3, 1);
        Check.equal("pressed past 5 from outside", harp.sounds(0), false);
    }

    private static void brokenChord() {
        WedgeHarps harp = Scenes.broken(6);
        harp.chord(6, 5, 440, 0, 0);
        harp.chord(5, 400, 3, 0, 0);
        harp.chord(5, 400, 900, 0, 0);
        Check.equal("off with a broken string", harp.off(0), 5);
        Check.equal("a broken string sounds in no chord", harp.sounds(0), false);
        Check.equal("nor as the second one", harp.sounds(1), false);
        Check.equal("off by the whole tone", harp.off(2), 900);
        for (int i = 0; i < 3; i++) {
            Check.equal("steps of broken chord " + i, harp.steps(i), -1);
        }
        harp.draw(6, 900);
        Check.equal("drawn anew", harp.sounds(2), true);
    }

    private static void steps() {
        WedgeHarps harp = new WedgeHarps();
        harp.chord(0, 305, 315, 0, 0);
        harp.chord(0, 310, 330, 0, 0);
        harp.chord(3, 360, 390, 400, 0);
        harp.chord(8, 476, 512, 539, 539);
        long before = harp.digest();
        Check.equal("none for a chord that sounds", harp.steps(0), 0);
        Check.equal("one each for two", harp.steps(1), 2);
        Check.equal("one in the middle, within 3 of the rest", harp.steps(2), 1);
        Check.equal("1 under 8, 2 under 9, 3 under 10, 1 under 11", harp.steps(3), 7);
        Check.equal("steps changes nothing", harp.digest(), before);
        harp.push(9, 4);
        harp.push(10, 4);
        Check.equal("steps back and forth", harp.steps(3), 1 + 2 + 1 + 1);
    }

    private static void stepsAtTheirReach() {
        WedgeHarps harp = new WedgeHarps();
        harp.chord(0, 345, 332, 0, 0);
        harp.chord(0, 355, 335, 0, 0);
        Check.equal("4 steps under one string", harp.steps(0), 4);
        Check.equal("5 steps under one string are too many", harp.steps(1), -1);
        harp.push(0, 10);
        Check.equal("5 steps back are too many", harp.steps(0), -1);
        harp.push(0, -1);
        Check.equal("4 steps back", harp.steps(0), 4);
    }

    private static void stepsAtTheWedgesEnds() {
        WedgeHarps harp = new WedgeHarps();
        harp.chord(5, 394, 417, 0, 0);
        Check.equal("no step back from 0", harp.steps(0), -1);
        harp.draw(5, 390);
        harp.push(5, 1);
        Check.equal("a step back to 0", harp.steps(0), 1);
        harp.push(9, 20);
        harp.chord(9, 686, 563, 0, 0);
        Check.equal("no step forth from 20", harp.steps(1), -1);
        harp.push(9, -1);
        harp.chord(9, 676, 558, 0, 0);
        Check.equal("a step forth to 20", harp.steps(2), 1);
    }

    private static void stepsOfTheChordAlone() {
        WedgeHarps harp = new WedgeHarps();
        harp.chord(1, 326, 335, 0, 0);
        Check.equal("a step under 0 would do, but it is not in the chord", harp.steps(0), -1);
        harp.push(0, 1);
        Check.equal("it does", harp.steps(0), 0);
        harp.chord(7, 440, 466, 0, 0);
        harp.push(9, 1);
        Check.equal("pressed from above already", harp.steps(1), 0);
    }

    private static void noSuchChord() {
        WedgeHarps harp = new WedgeHarps();
        Check.outOfBounds("off(0) of none", harp, () -> harp.off(0));
        Check.outOfBounds("sounds(0) of none", harp, () -> harp.sounds(0));
        Check.outOfBounds("steps(0) of none", harp, () -> harp.steps(0));
        harp.chord(0, 300, 320, 0, 0);
        for (int chord : new int[] {-1, 1, 5, 6, LEAST, MOST}) {
            Check.outOfBounds("off(" + chord + ")", harp, () -> harp.off(chord));
            Check.outOfBounds("sounds(" + chord + ")", harp, () -> harp.sounds(chord));
            Check.outOfBounds("steps(" + chord + ")", harp, () -> harp.steps(chord));
        }
        for (int i = 1; i < 6; i++) {
            harp.chord(0, 300, 320, 0, 0);
        }
        Check.outOfBounds("off(6) of six", harp, () -> harp.off(6));
        Check.equal("off(5) of six", harp.off(5), 0);
    }
}
