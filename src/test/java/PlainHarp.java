import java.util.ArrayList;
import java.util.List;

/** The document, told again in its own order and without any thrift: what the class is compared with. */
final class PlainHarp {
    private static final class Str {
        int base;
        int wedge;
        int drift;
        int strain;
        boolean whole = true;
        int broke;
    }

    private final List<Str> strings = new ArrayList<>();
    private final List<int[]> chords = new ArrayList<>();
    private final List<Integer> firsts = new ArrayList<>();
    private final int[][] weather = new int[12][2];
    private int swelling;
    private int hour;

    PlainHarp() {
        for (int k = 0; k < 12; k++) {
            Str s = new Str();
            s.base = 300 + 20 * k;
            strings.add(s);
        }
    }

    private PlainHarp copy() {
        PlainHarp other = new PlainHarp();
        for (int k = 0; k < 12; k++) {
            Str from = strings.get(k);
            Str to = other.strings.get(k);
            to.base = from.base;
            to.wedge = from.wedge;
            to.drift = from.drift;
            to.strain = from.strain;
            to.whole = from.whole;
            to.broke = from.broke;
            other.weather[k][0] = weather[k][0];
            other.weather[k][1] = weather[k][1];
        }
        other.chords.addAll(chords);
        other.firsts.addAll(firsts);
        other.swelling = swelling;
        other.hour = hour;
        return other;
    }

    private int wedgeAt(int k) {
        return k < 0 || k > 11 ? 0 : strings.get(k).wedge;
    }

    private int tone(int k) {
        Str s = strings.get(k);
        return s.whole ? s.base + 10 * s.wedge + 3 * wedgeAt(k - 1) + 3 * wedgeAt(k + 1) + s.drift - swelling : 0;
    }

    private static void within(int value, int from, int to) {
        if (value < from || value > to) {
            throw new IndexOutOfBoundsException();
        }
    }

    private static void allowed(boolean isAllowed) {
        if (!isAllowed) {
            throw new IllegalArgumentException();
        }
    }

    int push(int string, int steps) {
        within(string, 0, 11);
        allowed(steps != 0 && steps >= -20 && steps <= 20);
        int wedge = strings.get(string).wedge + steps;
        if (wedge < 0 || wedge > 20) {
            throw new IllegalStateException();
        }
        strings.get(string).wedge = wedge;
        return tone(string);
    }

    int draw(int string, int base) {
        within(string, 0, 11);
        allowed(base >= 100 && base <= 900);
        Str s = strings.get(string);
        s.whole = true;
        s.base = base;
        s.drift = 0;
        s.strain = 0;
        return tone(string);
    }

    int setWeather(int at, int wind, int damp) {
        within(at, 0, 11);
        allowed(wind >= 0 && wind <= 20 && damp >= 0 && damp <= 9);
        int before = 10 * weather[at][0] + weather[at][1];
        weather[at] = new int[] {wind, damp};
        return before;
    }

    int string(int string, int what) {
        within(string, 0, 11);
        within(what, 0, 6);
        Str s = strings.get(string);
        return new int[] {s.base, s.wedge, s.drift, s.strain, s.whole ? 1 : 0, tone(string), s.broke}[what];
    }

    int moves(int string, int steps, int other) {
        within(string, 0, 11);
        within(other, 0, 11);
        allowed(steps >= -20 && steps <= 20);
        PlainHarp pushed = copy();
        pushed.strings.get(string).wedge += steps;
        return pushed.tone(other) - tone(other);
    }

    int chord(int first, int a, int b, int c, int d) {
        within(first, 0, 11);
        allowed(a >= 1 && a <= 1500 && b >= 1 && b <= 1500);
        allowed(c >= 0 && c <= 1500 && d >= 0 && d <= 1500);
        allowed(c != 0 || d == 0);
        int[] tones = c == 0 ? new int[] {a, b} : d == 0 ? new int[] {a, b, c} : new int[] {a, b, c, d};
        allowed(first + tones.length - 1 <= 11);
        if (chords.size() == 6) {
            throw new IllegalStateException();
        }
        chords.add(tones);
        firsts.add(first);
        return chords.size() - 1;
    }

    int off(int chord) {
        within(chord, 0, chords.size() - 1);
        int sum = 0;
        for (int i = 0; i < chords.get(chord).length; i++) {
            sum += Math.abs(tone(firsts.get(chord) + i) - chords.get(chord)[i]);
        }
        return sum;
    }

    boolean sounds(int chord) {
        within(chord, 0, chords.size() - 1);
        for (int i = 0; i < chords.get(chord).length; i++) {
            int k = firsts.get(chord) + i;
            if (!strings.get(k).whole || Math.abs(tone(k) - chords.get(chord)[i]) > 5) {
                return false;
            }
        }
        return true;
    }

    /** Tries each row of pushes on a copy. */
    int steps(int chord) {
        within(chord, 0, chords.size() - 1);
        int size = chords.get(chord).length;
        int rows = 1;
        for (int i = 0; i < size; i++) {
            rows *= 9;
        }
        int best = -1;
        PlainHarp tried = copy();
        for (int row = 0; row < rows; row++) {
            int cost = 0;
            boolean fits = true;
            int rest = row;
            for (int i = 0; i < size; i++) {
                int push = rest % 9 - 4;
                rest /= 9;
                int k = firsts.get(chord) + i;
                int wedge = strings.get(k).wedge + push;
                fits &= wedge >= 0 && wedge <= 20;
                tried.strings.get(k).wedge = wedge;
                cost += Math.abs(push);
            }
            if (fits && (best < 0 || cost < best) && tried.sounds(chord)) {
                best = cost;
            }
        }
        return best;
    }

    int pass(int hours) {
        allowed(hours >= 1 && hours <= 200);
        int broken = 0;
        for (int h = 0; h < hours; h++) {
            broken += hourGoes(weather[hour % 12][0]).size();
        }
        return broken;
    }

    /** The four steps of an hour, each for all strings ahead of the next; answers the strings that break. */
    private List<Integer> hourGoes(int wind) {
        int damp = weather[hour % 12][1];
        List<Integer> broken = new ArrayList<>();
        int[] tones = new int[12];
        for (int k = 0; k < 12; k++) {
            tones[k] = tone(k);
        }
        for (int k = 0; k < 12; k++) {
            Str s = strings.get(k);
            if (s.whole) {
                s.strain += wind * tones[k] / 1000;
                s.strain = s.strain < 2 ? 0 : s.strain - 2;
                if (s.strain > 100) {
                    s.whole = false;
                    s.strain = 0;
                    s.drift = 0;
                    s.broke++;
                    broken.add(k);
                }
            }
        }
        for (Str s : strings) {
            if (s.whole) {
                int change = s.strain >= 50 ? -1 : damp >= 6 ? 1 : 0;
                s.drift = Math.max(-50, Math.min(50, s.drift + change));
            }
        }
        swelling = Math.max(0, Math.min(30, swelling + (damp >= 5 ? 1 : -1)));
        hour++;
        return broken;
    }

    int count(int what) {
        within(what, 0, 7);
        int[] counts = {hour, 0, chords.size(), 0, swelling, 0, 0, 0};
        for (Str s : strings) {
            counts[1] += s.whole ? 1 : 0;
            counts[5] += s.wedge;
            counts[6] += s.strain;
            counts[7] += s.broke;
        }
        for (int i = 0; i < chords.size(); i++) {
            counts[3] += sounds(i) ? 1 : 0;
        }
        return counts[what];
    }

    int bears(int string) {
        within(string, 0, 11);
        int best = -1;
        for (int wind = 0; wind <= 20; wind++) {
            PlainHarp tried = copy();
            for (int h = 0; h < 24; h++) {
                tried.hourGoes(wind);
            }
            if (strings.get(string).whole && tried.strings.get(string).whole) {
                best = wind;
            }
        }
        return best;
    }

    int first() {
        PlainHarp tried = copy();
        for (int h = 0; h < 200; h++) {
            List<Integer> broken = tried.hourGoes(weather[tried.hour % 12][0]);
            if (!broken.isEmpty()) {
                return broken.get(0);
            }
        }
        return -1;
    }

    int holds(int chord) {
        within(chord, 0, chords.size() - 1);
        if (!sounds(chord)) {
            return 0;
        }
        PlainHarp tried = copy();
        for (int h = 1; h <= 200; h++) {
            tried.pass(1);
            if (!tried.sounds(chord)) {
                return h;
            }
        }
        return -1;
    }

    int foresee(int hours, int string) {
        allowed(hours >= 1 && hours <= 200);
        within(string, 0, 11);
        PlainHarp tried = copy();
        tried.pass(hours);
        return tried.tone(string);
    }

    double mean() {
        double sum = 0;
        for (int k = 0; k < 12; k++) {
            sum += tone(k);
        }
        return count(1) == 0 ? 0 : sum / count(1);
    }

    long digest() {
        List<Integer> all = new ArrayList<>();
        for (int what = 0; what < 8; what++) {
            all.add(count(what));
        }
        for (int k = 0; k < 12; k++) {
            for (int what = 0; what < 7; what++) {
                all.add(string(k, what));
            }
        }
        for (int[] at : weather) {
            all.add(10 * at[0] + at[1]);
        }
        for (int i = 0; i < chords.size(); i++) {
            all.add(firsts.get(i));
            all.add(chords.get(i).length);
            for (int tone : chords.get(i)) {
                all.add(tone);
            }
            all.add(off(i));
        }
        long d = 947;
        for (int x : all) {
            d = d * 31 + x;
        }
        return d;
    }
}
