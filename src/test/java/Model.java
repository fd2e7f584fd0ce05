import java.math.BigInteger;
import java.util.ArrayList;
import java.util.List;
import java.util.regex.Pattern;

/**
 * The document once more, written for being plain and not for being fast: every hour is played
 * for every carter, every STRENGTH is tried. RandomTest holds the program against it.
 */
final class Model {
    static final int NONE = -1, BAD = -2, NOT = -3, FULL = -4;
    private static final Pattern WAYS = Pattern.compile(
        "([a-h])(?!\\1)[a-h][1-9][udf](;([a-h])(?!\\3)[a-h][1-9][udf]){0,9}");
    private static final Pattern CARTERS = Pattern.compile("[a-h]{2}[ocr][0-9]{3}(;[a-h]{2}[ocr][0-9]{3}){0,7}");

    /** A way: from, to, long, slope. A carter: from, goal, sort, strength, load, late. */
    static final class World {
        List<int[]> ways = new ArrayList<>();
        List<int[]> carters = new ArrayList<>();
        List<int[]> answers = new ArrayList<>();

        World copy() {
            World w = new World();
            for (int[] way : ways) {
                w.ways.add(way.clone());
            }
            for (int[] carter : carters) {
                w.carters.add(carter.clone());
            }
            w.answers.addAll(answers);
            return w;
        }
    }

    static final class Outcome {
        final int[][][] at;
        final int[] ends;
        final int[] arrive = new int[8];
        int metHour = NONE;
        int metPlace = NONE;

        Outcome(int carters) {
            at = new int[40][carters][];
            ends = new int[carters];
            java.util.Arrays.fill(ends, NONE);
        }

        int many(int is) {
            int n = 0;
            for (int[] row : at[39]) {
                n += row[0] == is ? 1 : 0;
            }
            return n;
        }
    }

    private final StringBuilder[] texts = {new StringBuilder(), new StringBuilder()};
    private final int[] lates = new int[8];
    private List<int[]> answers = new ArrayList<>();
    private final List<int[]> seen = new ArrayList<>();
    private final int[][] sheets = new int[4][];
    private final int[] forms = new int[4];
    private int finding = 0;

    // ---- the world

    private static boolean well(int text, String s) {
        return s.isEmpty() || (text == 0 ? WAYS : CARTERS).matcher(s).matches();
    }

    private static boolean canGoOn(int text, String s) {
        String[] ends = text == 0 ? new String[] {"ab1u", "ba1u"} : new String[] {"aao000"};
        int width = ends[0].length() + 1;
        for (String end : ends) {
            int column = s.length() % width;
            if (well(text, column == width - 1 ? s : s + end.substring(column))) {
                return true;
            }
        }
        return false;
    }

    private World world() {
        World w = new World();
        if (fault(0) == NONE && texts[0].length() > 0) {
            for (String s : texts[0].toString().split(";")) {
                w.ways.add(new int[] {s.charAt(0) - 'a', s.charAt(1) - 'a', s.charAt(2) - '0', "ufd".indexOf(s.charAt(3))});
            }
        }
        if (fault(1) == NONE && texts[1].length() > 0) {
            for (String s : texts[1].toString().split(";")) {
                w.carters.add(new int[] {s.charAt(0) - 'a', s.charAt(1) - 'a', "ocr".indexOf(s.charAt(2)),
                    Integer.parseInt(s.substring(3, 5)), s.charAt(5) - '0', lates[w.carters.size()]});
            }
        }
        w.answers.addAll(answers);
        return w;
    }

    private static int step(World w, int from, int to) {
        int least = NONE;
        for (int[] way : w.ways) {
            int hours = NONE;
            if (way[0] == from && way[1] == to) {
                hours = way[2] * new int[] {3, 2, 1}[way[3]];
            } else if (way[1] == from && way[0] == to) {
                hours = way[2] * new int[] {1, 2, 3}[way[3]];
            }
            if (hours != NONE && (least == NONE || hours < least)) {
                least = hours;
            }
        }
        return least;
    }

    private static int[] farTo(World w, int goal) {
        int[] far = new int[8];
        java.util.Arrays.fill(far, NONE);
        far[goal] = 0;
        for (int round = 0; round < 8; round++) {
            for (int p = 0; p < 8; p++) {
                for (int q = 0; q < 8; q++) {
                    int step = step(w, p, q);
                    if (step != NONE && far[q] != NONE && (far[p] == NONE || step + far[q] < far[p])) {
                        far[p] = step + far[q];
                    }
                }
            }
        }
        return far;
    }

    static Outcome play(World w) {
        int n = w.carters.size();
        Outcome o = new Outcome(n);
        int[] is = new int[n];
        int[] place = new int[n];
        int[] left = new int[n];
        int[] due = new int[n];
        int[][] far = new int[n][];
        for (int c = 0; c < n; c++) {
            int[] carter = w.carters.get(c);
            place[c] = carter[0];
            left[c] = carter[3];
            due[c] = carter[5];
            far[c] = farTo(w, carter[1]);
        }
        for (int hour = 0; hour < 40; hour++) {
            int[] present = new int[8];
            for (int c = 0; c < n; c++) {
                if (is[c] >= 2 || due[c] == hour) {
                    present[place[c]]++;
                }
            }
            for (int p = 7; p >= 0; p--) {
                if (present[p] >= 2 && (o.metHour == NONE || o.metHour == hour)) {
                    o.metHour = hour;
                    o.metPlace = p;
                }
            }
            for (int c = 0; c < n; c++) {
                if (is[c] < 2 && due[c] == hour) {
                    arrive(w, o, c, hour, present, is, place, left, due, far[c]);
                }
            }
            for (int c = 0; c < n; c++) {
                o.at[hour][c] = new int[] {is[c], is[c] >= 2 ? place[c] : NONE, left[c], is[c] == 1 ? place[c] : NONE};
            }
        }
        return o;
    }

    private static void arrive(World w, Outcome o, int c, int hour, int[] present,
                               int[] is, int[] place, int[] left, int[] due, int[] far) {
        int[] carter = w.carters.get(c);
        int p = place[c];
        o.arrive[p]++;
        boolean told = false;
        for (int[] answer : w.answers) {
            told |= carter[2] < 2 && answer[0] == hour && answer[1] == p;
        }
        told |= carter[2] == 1 && present[p] >= 2;
        int to = NONE;
        for (int q = 7; q >= 0; q--) {
            int step = step(w, p, q);
            if (step != NONE && far[q] != NONE && step + far[q] == far[p]) {
                to = q;
            }
        }
        if (p == carter[1]) {
            is[c] = 2;
        } else if (told) {
            is[c] = 3;
        } else if (far[p] == NONE) {
            is[c] = 5;
        } else if (left[c] < step(w, p, to) + carter[4]) {
            is[c] = 4;
        } else {
            is[c] = 1;
            left[c] -= step(w, p, to) + carter[4];
            due[c] = hour + step(w, p, to);
            place[c] = to;
        }
        if (is[c] >= 2) {
            o.ends[c] = hour;
        }
    }

    private static int come(World w) {
        return play(w).many(2);
    }

    private boolean comesOutSo(World w) {
        Outcome o = play(w);
        for (int[] s : seen) {
            if (s[1] >= w.carters.size()) {
                return false;
            }
            int stays = o.at[s[0]][s[1]][1];
            if (stays != (s[2] == 8 ? NONE : s[2])) {
                return false;
            }
        }
        return true;
    }

    private static boolean in(int v, int least, int greatest) {
        return v >= least && v <= greatest;
    }

    private boolean noCarter(int carter) {
        return !in(carter, 0, world().carters.size() - 1);
    }

    private int find(int number) {
        finding = number;
        return -10 - number;
    }

    // ---- the face

    int type(int text, int b) {
        if (!in(text, 0, 1) || !in(b, 0, 255)) {
            return BAD;
        }
        if (texts[text].length() == (text == 0 ? 49 : 55)) {
            return FULL;
        }
        texts[text].append((char) b);
        return texts[text].length();
    }

    int wipe(int text) {
        if (!in(text, 0, 1)) {
            return BAD;
        }
        int had = texts[text].length();
        texts[text].setLength(0);
        return had;
    }

    int undo(int text) {
        if (!in(text, 0, 1)) {
            return BAD;
        }
        if (texts[text].length() == 0) {
            return NOT;
        }
        texts[text].setLength(texts[text].length() - 1);
        return texts[text].length();
    }

    int fault(int text) {
        if (!in(text, 0, 1)) {
            return BAD;
        }
        String s = texts[text].toString();
        for (int k = 0; k < s.length(); k++) {
            if (!canGoOn(text, s.substring(0, k + 1))) {
                return k;
            }
        }
        return well(text, s) ? NONE : s.length();
    }

    int way(int way, int what) {
        List<int[]> ways = world().ways;
        return in(way, 0, ways.size() - 1) && in(what, 0, 3) ? ways.get(way)[what] : BAD;
    }

    int carter(int carter, int what) {
        return noCarter(carter) || !in(what, 0, 4) ? BAD : world().carters.get(carter)[what];
    }

    int late(int carter, int v) {
        if (!in(carter, 0, 7) || !in(v, 0, 9)) {
            return BAD;
        }
        int was = lates[carter];
        lates[carter] = v;
        return was;
    }

    int answer(int hour, int place) {
        if (!in(hour, 0, 39) || !in(place, 0, 7)) {
            return BAD;
        }
        if (answers.size() == 8) {
            return FULL;
        }
        answers.add(new int[] {hour, place});
        return answers.size();
    }

    int back() {
        if (answers.isEmpty()) {
            return NOT;
        }
        answers.remove(answers.size() - 1);
        return answers.size();
    }

    int read(int s) {
        if (!in(s, 0, 3)) {
            return BAD;
        }
        if (sheets[s] == null) {
            return find(1);
        }
        int came = 0;
        while (2 * came + 1 < sheets[s].length && answer(sheets[s][2 * came], sheets[s][2 * came + 1]) > 0) {
            came++;
        }
        return came;
    }

    int at(int hour, int carter, int what) {
        return !in(hour, 0, 39) || noCarter(carter) || !in(what, 0, 3) ? BAD : play(world()).at[hour][carter][what];
    }

    int ends(int carter) {
        return noCarter(carter) ? BAD : play(world()).ends[carter];
    }

    int far(int from, int to) {
        return in(from, 0, 7) && in(to, 0, 7) ? farTo(world(), to)[from] : BAD;
    }

    int who(int is) {
        if (!in(is, 2, 5)) {
            return BAD;
        }
        int bits = 0;
        int[][] last = play(world()).at[39];
        for (int c = 0; c < last.length; c++) {
            bits += last[c][0] == is ? 1 << c : 0;
        }
        return bits;
    }

    int met(int what) {
        Outcome o = play(world());
        return what == 0 ? o.metHour : what == 1 ? o.metPlace : BAD;
    }

    int busiest() {
        int[] arrive = play(world()).arrive;
        int best = NONE;
        for (int p = 7; p >= 0; p--) {
            if (arrive[p] > 0 && (best == NONE || arrive[p] >= arrive[best])) {
                best = p;
            }
        }
        return best;
    }

    int needs(int carter) {
        if (noCarter(carter)) {
            return BAD;
        }
        World w = world();
        for (int strength = 0; strength <= 99; strength++) {
            w.carters.get(carter)[3] = strength;
            if (play(w).at[39][carter][0] == 2) {
                return strength;
            }
        }
        return NONE;
    }

    int lend(int what) {
        if (!in(what, 0, 2)) {
            return BAD;
        }
        int[] best = {NONE, NONE, NONE};
        World w = world();
        for (int i = 0; i < w.carters.size(); i++) {
            for (int j = i + 1; j < w.carters.size(); j++) {
                World v = w.copy();
                for (int part = 2; part <= 3; part++) {
                    v.carters.get(i)[part] = w.carters.get(j)[part];
                    v.carters.get(j)[part] = w.carters.get(i)[part];
                }
                int come = come(v);
                if (come > best[2]) {
                    best = new int[] {i, j, come};
                }
            }
        }
        return best[what];
    }

    int delay(int carter, int what) {
        if (noCarter(carter) || !in(what, 0, 1)) {
            return BAD;
        }
        int[] best = {NONE, NONE};
        World w = world();
        for (int late = 0; late <= 9; late++) {
            w.carters.get(carter)[5] = late;
            int come = come(w);
            if (come > best[1]) {
                best = new int[] {late, come};
            }
        }
        return best[what];
    }

    int level(int what) {
        if (!in(what, 0, 1)) {
            return BAD;
        }
        int[] best = {NONE, NONE};
        World w = world();
        for (int i = 0; i < w.ways.size(); i++) {
            World v = w.copy();
            v.ways.get(i)[3] = 1;
            int come = come(v);
            if (come > best[1]) {
                best = new int[] {i, come};
            }
        }
        return best[what];
    }

    int seen(int hour, int carter, int place) {
        if (!in(hour, 0, 39) || !in(carter, 0, 7) || !in(place, 0, 8)) {
            return BAD;
        }
        if (seen.size() == 8) {
            return FULL;
        }
        seen.add(new int[] {hour, carter, place});
        return seen.size();
    }

    int forget() {
        int had = seen.size();
        seen.clear();
        return had;
    }

    int never() {
        int bits = 0;
        for (int a = 0; a < answers.size(); a++) {
            World w = world();
            w.answers.remove(a);
            bits += comesOutSo(w) ? 1 << a : 0;
        }
        return bits;
    }

    int sort(int carter) {
        if (noCarter(carter)) {
            return BAD;
        }
        int bits = 0;
        World w = world();
        for (int sort = 0; sort < 3; sort++) {
            w.carters.get(carter)[2] = sort;
            bits += comesOutSo(w) ? 1 << sort : 0;
        }
        return bits;
    }

    int force(int carter, int what) {
        if (noCarter(carter) || !in(what, 0, 2)) {
            return BAD;
        }
        int[] found = {0, NONE, NONE};
        World w = world();
        for (int strength = 0; strength <= 99; strength++) {
            w.carters.get(carter)[3] = strength;
            if (comesOutSo(w)) {
                found[0]++;
                found[1] = found[1] == NONE ? strength : found[1];
                found[2] = strength;
            }
        }
        return found[what];
    }

    int ask(int carter) {
        if (noCarter(carter)) {
            return BAD;
        }
        int sorts = sort(carter);
        List<Outcome> outcomes = new ArrayList<>();
        World w = world();
        for (int sort = 0; sort < 3; sort++) {
            w.carters.get(carter)[2] = sort;
            if ((sorts & 1 << sort) != 0) {
                outcomes.add(play(w));
            }
        }
        int best = NONE;
        int least = 99;
        for (int hour = 0; hour < 40; hour++) {
            int[] stay = new int[9];
            int greatest = 0;
            for (Outcome o : outcomes) {
                int place = o.at[hour][carter][1];
                greatest = Math.max(greatest, ++stay[place == NONE ? 8 : place]);
            }
            if (greatest < least) {
                least = greatest;
                best = hour;
            }
        }
        return best;
    }

    long rumour(int c, int carter, int what) {
        if (!in(c, 0, 16) || noCarter(carter) || !in(what, 0, 1)) {
            return Long.MIN_VALUE + 2;
        }
        BigInteger above = BigInteger.ZERO;
        for (int bits = 0; bits < 1 << answers.size(); bits++) {
            World w = world();
            w.answers.clear();
            BigInteger weight = BigInteger.ONE;
            for (int a = 0; a < answers.size(); a++) {
                boolean is = (bits & 1 << a) != 0;
                weight = weight.multiply(BigInteger.valueOf(is ? c : 16 - c));
                if (is) {
                    w.answers.add(answers.get(a));
                }
            }
            if (play(w).at[39][carter][0] == 2) {
                above = above.add(weight);
            }
        }
        BigInteger below = BigInteger.valueOf(16).pow(answers.size());
        BigInteger part = above.gcd(below);
        return (what == 0 ? above : below).divide(part).longValueExact();
    }

    int market(int seed, int what) {
        if (!in(what, 0, 1)) {
            return BAD;
        }
        World w = world();
        int s = seed;
        for (int[] carter : w.carters) {
            s = s * 1103515245 + 12345;
            carter[3] = ((s >> 16) & 0xffff) % 100;
        }
        return play(w).many(what == 0 ? 2 : 4);
    }

    int sheet(int s, int form, int n) {
        if (!in(s, 0, 3) || !in(form, 0, 2) || n > 60) {
            return BAD;
        }
        if (n < 0) {
            return find(5);
        }
        sheets[s] = new int[n];
        forms[s] = form;
        return n;
    }

    int lose(int s) {
        if (!in(s, 0, 3)) {
            return BAD;
        }
        if (sheets[s] == null) {
            return find(1);
        }
        int had = sheets[s].length;
        sheets[s] = null;
        return had;
    }

    private static int cut(int form, int v) {
        return form == 0 ? v << 24 >> 24 : form == 1 ? v << 16 >> 16 : v;
    }

    int lay(int s, int form, int i, int v) {
        if (!in(s, 0, 3) || !in(form, 0, 2)) {
            return BAD;
        }
        if (sheets[s] == null) {
            return find(1);
        }
        if (forms[s] != form) {
            return find(3);
        }
        if (!in(i, 0, sheets[s].length - 1)) {
            return find(2);
        }
        sheets[s][i] = cut(form, v);
        return 1;
    }

    int get(int s, int form, int i) {
        if (!in(s, 0, 3) || !in(form, 0, 2)) {
            return Integer.MIN_VALUE;
        }
        if (sheets[s] == null || forms[s] != form || !in(i, 0, sheets[s].length - 1)) {
            find(sheets[s] == null ? 1 : forms[s] != form ? 3 : 2);
            return Integer.MIN_VALUE;
        }
        return sheets[s][i];
    }

    int copy(int s, int i, int t, int j, int n) {
        if (!in(s, 0, 3) || !in(t, 0, 3)) {
            return BAD;
        }
        if (sheets[s] == null || sheets[t] == null) {
            return find(1);
        }
        if (forms[s] != forms[t]) {
            return find(4);
        }
        if (i < 0 || j < 0 || n < 0 || (long) i + n > sheets[s].length || (long) j + n > sheets[t].length) {
            return find(2);
        }
        int[] were = sheets[s].clone();
        for (int k = 0; k < n; k++) {
            sheets[t][j + k] = were[i + k];
        }
        return 1;
    }

    int write(int carter, int s) {
        if (noCarter(carter) || !in(s, 0, 3)) {
            return BAD;
        }
        if (sheets[s] == null) {
            return find(1);
        }
        Outcome o = play(world());
        int n = Math.min(40, sheets[s].length);
        for (int hour = 0; hour < n; hour++) {
            sheets[s][hour] = o.at[hour][carter][1];
        }
        return n;
    }

    int count(int what) {
        if (!in(what, 0, 8)) {
            return BAD;
        }
        Outcome o = play(world());
        int arrive = 0;
        for (int n : o.arrive) {
            arrive += n;
        }
        return new int[] {world().ways.size(), world().carters.size(), texts[0].length(), texts[1].length(),
            answers.size(), o.many(2), arrive, seen.size(), finding}[what];
    }

    long digest() {
        List<Long> all = new ArrayList<>();
        for (int what = 0; what < 8; what++) {
            all.add((long) count(what));
        }
        all.add((long) fault(0));
        all.add((long) fault(1));
        for (int w = 0; w < count(0); w++) {
            for (int what = 0; what < 4; what++) {
                all.add((long) way(w, what));
            }
        }
        for (int p = 0; p < 8; p++) {
            all.add((long) far(0, p));
            all.add((long) far(p, 3));
        }
        for (int c = 0; c < count(1); c++) {
            digestCarter(all, c);
        }
        for (int is = 2; is <= 5; is++) {
            all.add((long) who(is));
        }
        int[] rest = {met(0), met(1), busiest(), lend(0), lend(1), lend(2), level(0), level(1), never(), market(7, 0), market(7, 1)};
        for (int v : rest) {
            all.add((long) v);
        }
        long h = 17;
        for (long v : all) {
            h = 31 * h + v;
        }
        return h;
    }

    private void digestCarter(List<Long> all, int c) {
        for (int what = 0; what < 5; what++) {
            all.add((long) carter(c, what));
        }
        for (int hour : new int[] {0, 5, 15, 39}) {
            for (int what = 0; what < 4; what++) {
                all.add((long) at(hour, c, what));
            }
        }
        long[] rest = {ends(c), needs(c), delay(c, 0), delay(c, 1), sort(c), force(c, 0), force(c, 1), force(c, 2), ask(c),
            rumour(5, c, 0), rumour(5, c, 1)};
        for (long v : rest) {
            all.add(v);
        }
    }
}
