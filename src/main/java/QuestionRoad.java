/** Donkeys that are led by questions: ways, carters and answers, and how each carter's road ends. */
public final class QuestionRoad {
    public static final int NONE = -1, BAD = -2, NOT = -3, FULL = -4;

    private static final int PLACES = 8, HOURS = 40, CARTERS = 8, WAYS = 10;
    private static final int STRENGTHS = 100, LATES = 10, SORTS = 3;
    private static final int ANSWERS = 8, SEEN = 8, SHEETS = 4, FORMS = 3, ITEMS = 60;
    private static final int UP = 0, FLAT = 1, DOWN = 2;
    private static final int OPEN = 0, COMMON = 1, RIDDLE = 2;
    private static final int AWAY = 0, GOING = 1, COME = 2, TOLD = 3, TIRED = 4, LOST = 5;
    private static final int NULL = 1, INDEX = 2, CAST = 3, STORE = 4, SIZE = 5;
    private static final int LEAST_INT = -2147483648;
    private static final long LEAST_LONG = -9223372036854775808L;

    private final Text ways;
    private final Text carters;
    private final Answers answers;
    private final Setting setting;
    private final Run run;
    private final Plans plans;
    private final Clues clues;
    private final Chances chances;
    private final Sheet[] sheets;
    private int finding;

    public QuestionRoad() {
        ways = new Text(Text.WAY, WAYS);
        carters = new Text(Text.CARTER, CARTERS);
        answers = new Answers();
        setting = new Setting(answers, new Chart());
        setting.chart.fill(ways, NONE);
        run = new Run();
        run.play(setting);
        // Trials share one setting and one run of their own, so that the real run stays as it is.
        Setting trial = new Setting(answers, setting.chart);
        Run trialRun = new Run();
        plans = new Plans(setting, trial, trialRun);
        clues = new Clues(setting, trial, trialRun);
        chances = new Chances(setting, trial, trialRun);
        sheets = new Sheet[SHEETS];
        for (int s = 0; s < SHEETS; s++) {
            sheets[s] = new Sheet();
        }
        finding = 0;
    }

    // ---- ways, carters, answers

    public int type(int text, int b) {
        if (!within(text, 2) || !within(b, 256)) {
            return BAD;
        }
        Text t = textOf(text);
        if (t.isFull()) {
            return FULL;
        }
        t.push(b);
        textChanged(text);
        return t.length;
    }

    public int wipe(int text) {
        if (!within(text, 2)) {
            return BAD;
        }
        Text t = textOf(text);
        int had = t.length;
        t.cutTo(0);
        textChanged(text);
        return had;
    }

    public int undo(int text) {
        if (!within(text, 2)) {
            return BAD;
        }
        Text t = textOf(text);
        if (t.length == 0) {
            return NOT;
        }
        t.cutTo(t.length - 1);
        textChanged(text);
        return t.length;
    }

    public int fault(int text) {
        return within(text, 2) ? textOf(text).flaw : BAD;
    }

    public int way(int way, int what) {
        return within(way, ways.items) && within(what, 4) ? ways.number(way, what) : BAD;
    }

    public int carter(int carter, int what) {
        return isCarter(carter) && within(what, 5) ? setting.part(carter, what) : BAD;
    }

    public int late(int carter, int v) {
        if (!within(carter, CARTERS) || !within(v, LATES)) {
            return BAD;
        }
        int was = setting.lates[carter];
        setting.lates[carter] = v;
        run.play(setting);
        return was;
    }

    public int answer(int hour, int place) {
        if (!within(hour, HOURS) || !within(place, PLACES)) {
            return BAD;
        }
        if (answers.number >= ANSWERS) {
            return FULL;
        }
        answers.push(hour, place);
        run.play(setting);
        return answers.number;
    }

    public int back() {
        if (answers.number == 0) {
            return NOT;
        }
        answers.number--;
        run.play(setting);
        return answers.number;
    }

    public int read(int s) {
        if (!within(s, SHEETS)) {
            return BAD;
        }
        Sheet from = sheets[s];
        if (from.lost) {
            return found(NULL);
        }
        int before = answers.number;
        for (int i = 0; i + 1 < from.length && answers.number < ANSWERS; i += 2) {
            int hour = from.items[i];
            int place = from.items[i + 1];
            if (!within(hour, HOURS) || !within(place, PLACES)) {
                break;
            }
            answers.push(hour, place);
        }
        run.play(setting);
        return answers.number - before;
    }

    // ---- hours

    public int at(int hour, int carter, int what) {
        if (!within(hour, HOURS) || !isCarter(carter) || !within(what, 4)) {
            return BAD;
        }
        return behind(hour, carter, what);
    }

    public int ends(int carter) {
        return isCarter(carter) ? run.ended[carter] : BAD;
    }

    public int far(int from, int to) {
        return within(from, PLACES) && within(to, PLACES) ? setting.chart.distance(from, to) : BAD;
    }

    public int who(int is) {
        return is < COME || is > LOST ? BAD : run.whoIs(is);
    }

    public int met(int what) {
        if (!within(what, 2)) {
            return BAD;
        }
        return what == 0 ? run.meetingHour : run.meetingPlace;
    }

    public int busiest() {
        return run.mostArrivals();
    }

    // ---- plans

    public int needs(int carter) {
        return isCarter(carter) ? plans.leastStrength(carter) : BAD;
    }

    public int lend(int what) {
        if (!within(what, 3)) {
            return BAD;
        }
        plans.swapQuestions();
        if (what == 2) {
            return plans.most;
        }
        return what == 0 ? plans.best : plans.partner;
    }

    public int delay(int carter, int what) {
        if (!isCarter(carter) || !within(what, 2)) {
            return BAD;
        }
        plans.postpone(carter);
        return what == 0 ? plans.best : plans.most;
    }

    public int level(int what) {
        if (!within(what, 2)) {
            return BAD;
        }
        plans.flatten(ways);
        return what == 0 ? plans.best : plans.most;
    }

    // ---- seen, rumours, markets

    public int seen(int hour, int carter, int place) {
        if (!within(hour, HOURS) || !within(carter, CARTERS) || !within(place, PLACES + 1)) {
            return BAD;
        }
        if (clues.number >= SEEN) {
            return FULL;
        }
        clues.push(hour, carter, place);
        return clues.number;
    }

    public int forget() {
        int had = clues.number;
        clues.number = 0;
        return had;
    }

    public int never() {
        return clues.answersThatNeverWere();
    }

    public int sort(int carter) {
        return isCarter(carter) ? clues.sortsOf(carter) : BAD;
    }

    public int force(int carter, int what) {
        if (!isCarter(carter) || !within(what, 3)) {
            return BAD;
        }
        clues.strengthsOf(carter);
        if (what == 0) {
            return clues.many;
        }
        return what == 1 ? clues.least : clues.greatest;
    }

    public int ask(int carter) {
        if (!isCarter(carter)) {
            return BAD;
        }
        clues.sortsOf(carter);
        return clues.hourToLook();
    }

    public long rumour(int c, int carter, int what) {
        if (!within(c, 17) || !isCarter(carter) || !within(what, 2)) {
            return LEAST_LONG - BAD;
        }
        chances.weigh(c);
        chances.reduce(carter);
        return what == 0 ? chances.above : chances.below;
    }

    public int market(int seed, int what) {
        if (!within(what, 2)) {
            return BAD;
        }
        return chances.drawn(seed, what == 0 ? COME : TIRED);
    }

    // ---- sheets

    public int sheet(int s, int form, int n) {
        if (!within(s, SHEETS) || !within(form, FORMS) || n > ITEMS) {
            return BAD;
        }
        if (n < 0) {
            return found(SIZE);
        }
        sheets[s].renew(form, n);
        return n;
    }

    public int lose(int s) {
        if (!within(s, SHEETS)) {
            return BAD;
        }
        if (sheets[s].lost) {
            return found(NULL);
        }
        sheets[s].lost = true;
        return sheets[s].length;
    }

    public int lay(int s, int form, int i, int v) {
        int refusal = itemRefusal(s, form, i);
        if (refusal != 0) {
            return refusal;
        }
        sheets[s].put(i, v);
        return 1;
    }

    public int get(int s, int form, int i) {
        return itemRefusal(s, form, i) != 0 ? LEAST_INT : sheets[s].items[i];
    }

    public int copy(int s, int i, int t, int j, int n) {
        if (!within(s, SHEETS) || !within(t, SHEETS)) {
            return BAD;
        }
        Sheet from = sheets[s];
        Sheet to = sheets[t];
        if (from.lost || to.lost) {
            return found(NULL);
        }
        if (from.form != to.form) {
            return found(STORE);
        }
        if (!from.has(i, n) || !to.has(j, n)) {
            return found(INDEX);
        }
        System.arraycopy(from.items, i, to.items, j, n);
        return 1;
    }

    public int write(int carter, int s) {
        if (!isCarter(carter) || !within(s, SHEETS)) {
            return BAD;
        }
        Sheet to = sheets[s];
        if (to.lost) {
            return found(NULL);
        }
        int many = Math.min(to.length, HOURS);
        for (int hour = 0; hour < many; hour++) {
            to.put(hour, run.stayBehind(carter, hour));
        }
        return many;
    }

    public int count(int what) {
        switch (what) {
            case 0: return ways.items;
            case 1: return carters.items;
            case 2: return ways.length;
            case 3: return carters.length;
            case 4: return answers.number;
            case 5: return run.howMany(COME);
            case 6: return run.allArrivals();
            case 7: return clues.number;
            case 8: return finding;
            default: return BAD;
        }
    }

    public long digest() {
        long h = digestOfTexts(17);
        // One weighing tells the chances of all CARTERS.
        chances.weigh(5);
        for (int c = 0; c < carters.items; c++) {
            h = digestOfHours(h, c);
            h = digestOfTrials(h, c);
        }
        return digestOfAll(h);
    }

    private long digestOfTexts(long start) {
        long h = start;
        for (int what = 0; what < 8; what++) {
            h = mix(h, count(what));
        }
        h = mix(h, ways.flaw);
        h = mix(h, carters.flaw);
        for (int w = 0; w < ways.items; w++) {
            for (int what = 0; what < 4; what++) {
                h = mix(h, ways.number(w, what));
            }
        }
        for (int p = 0; p < PLACES; p++) {
            h = mix(h, setting.chart.distance(0, p));
            h = mix(h, setting.chart.distance(p, 3));
        }
        return h;
    }

    private long digestOfHours(long start, int carter) {
        long h = start;
        for (int what = 0; what < 5; what++) {
            h = mix(h, setting.part(carter, what));
        }
        h = digestOfHour(h, 0, carter);
        h = digestOfHour(h, 5, carter);
        h = digestOfHour(h, 15, carter);
        h = digestOfHour(h, 39, carter);
        return mix(h, run.ended[carter]);
    }

    private long digestOfHour(long start, int hour, int carter) {
        long h = start;
        for (int what = 0; what < 4; what++) {
            h = mix(h, behind(hour, carter, what));
        }
        return h;
    }

    private long digestOfTrials(long start, int carter) {
        long h = mix(start, plans.leastStrength(carter));
        plans.postpone(carter);
        h = mix(h, plans.best);
        h = mix(h, plans.most);
        h = mix(h, clues.sortsOf(carter));
        int hourToLook = clues.hourToLook();
        clues.strengthsOf(carter);
        h = mix(h, clues.many);
        h = mix(h, clues.least);
        h = mix(h, clues.greatest);
        h = mix(h, hourToLook);
        chances.reduce(carter);
        h = mix(h, chances.above);
        return mix(h, chances.below);
    }

    private long digestOfAll(long start) {
        long h = start;
        for (int is = COME; is <= LOST; is++) {
            h = mix(h, run.whoIs(is));
        }
        h = mix(h, run.meetingHour);
        h = mix(h, run.meetingPlace);
        h = mix(h, run.mostArrivals());
        plans.swapQuestions();
        h = mix(h, plans.best);
        h = mix(h, plans.partner);
        h = mix(h, plans.most);
        plans.flatten(ways);
        h = mix(h, plans.best);
        h = mix(h, plans.most);
        h = mix(h, clues.answersThatNeverWere());
        h = mix(h, chances.drawn(7, COME));
        return mix(h, chances.drawn(7, TIRED));
    }

    private static long mix(long h, long v) {
        return 31 * h + v;
    }

    /** Whether v is 0 to bound - 1. */
    private static boolean within(int v, int bound) {
        return v >= 0 && v < bound;
    }

    private boolean isCarter(int carter) {
        return within(carter, carters.items);
    }

    private Text textOf(int text) {
        return text == 0 ? ways : carters;
    }

    private void textChanged(int text) {
        if (text == 0) {
            setting.chart.fill(ways, NONE);
        } else {
            setting.take(carters);
        }
        run.play(setting);
    }

    private int found(int number) {
        finding = number;
        return -10 - number;
    }

    /** What forbids item i of a SHEET of a FORM: BAD, a FINDING, or 0. */
    private int itemRefusal(int s, int form, int i) {
        if (!within(s, SHEETS) || !within(form, FORMS)) {
            return BAD;
        }
        if (sheets[s].lost) {
            return found(NULL);
        }
        if (sheets[s].form != form) {
            return found(CAST);
        }
        return within(i, sheets[s].length) ? 0 : found(INDEX);
    }

    private int behind(int hour, int carter, int what) {
        int step = run.diary.lastStep(carter, hour);
        if (step == NONE) {
            if (what == 0) {
                return AWAY;
            }
            return what == 2 ? setting.strengths[carter] : NONE;
        }
        int whither = run.diary.whithers[step];
        switch (what) {
            case 0: return whither == NONE ? run.states[carter] : GOING;
            case 1: return whither == NONE ? run.diary.places[step] : NONE;
            case 2: return run.diary.lefts[step];
            default: return whither;
        }
    }

    /** A text of items of one pattern; the pattern's last sign stands between items alone. */
    private static final class Text {
        private static final int PLACE = 0, UNLIKE = 1, LONG = 2, FIGURE = 3, SLOPE = 4, SORT = 5, GAP = 6;
        private static final int[] WAY = {PLACE, UNLIKE, LONG, SLOPE, GAP};
        private static final int[] CARTER = {PLACE, PLACE, SORT, FIGURE, FIGURE, FIGURE, GAP};
        private final int[] pattern;
        private final int most;
        private final int[] bytes;
        int length = 0;
        int flaw = NONE;
        int items = 0;

        Text(int[] pattern, int most) {
            this.pattern = pattern;
            this.most = most;
            bytes = new int[Math.max(0, pattern.length * most - 1)];
        }

        boolean isFull() {
            return length >= bytes.length;
        }

        void push(int b) {
            bytes[length] = b;
            length++;
            judge();
        }

        void cutTo(int newLength) {
            length = newLength;
            judge();
        }

        private void judge() {
            int column = 0;
            int whole = 0;
            items = 0;
            for (int i = 0; i < length; i++) {
                if (whole >= most || !fits(column, i)) {
                    flaw = i;
                    return;
                }
                column++;
                if (column == pattern.length) {
                    column = 0;
                    whole++;
                }
            }
            boolean ended = column == pattern.length - 1;
            flaw = length == 0 || ended ? NONE : length;
            items = ended ? whole + 1 : 0;
        }

        private boolean fits(int column, int i) {
            int b = bytes[i];
            boolean isPlace = b >= 'a' && b < 'a' + PLACES;
            boolean isFigure = b >= '0' && b <= '9';
            switch (pattern[column]) {
                case PLACE: return isPlace;
                case UNLIKE: return isPlace && i > 0 && b != bytes[i - 1];
                case LONG: return isFigure && b != '0';
                case FIGURE: return isFigure;
                case SLOPE: return b == 'u' || b == 'f' || b == 'd';
                case SORT: return b == 'o' || b == 'c' || b == 'r';
                default: return b == ';';
            }
        }

        /** The number for which a sign of an item stands; the item is there. */
        int number(int item, int column) {
            int b = bytes[item * pattern.length + column];
            switch (pattern[column]) {
                case PLACE:
                case UNLIKE: return b - 'a';
                case LONG:
                case FIGURE: return b - '0';
                case SLOPE: return b == 'u' ? UP : b == 'f' ? FLAT : DOWN;
                default: return b == 'o' ? OPEN : b == 'c' ? COMMON : RIDDLE;
            }
        }
    }

    private static final class Answers {
        final int[] hours = new int[ANSWERS];
        final int[] places = new int[ANSWERS];
        int number = 0;

        void push(int hour, int place) {
            hours[number] = hour;
            places[number] = place;
            number++;
        }
    }

    /** HOURS from PLACE to PLACE; rows of all pairs, the first PLACE being the upper figure. */
    private static final class Chart {
        private static final int UNREACHED = 1000;
        private final int[] steps = new int[PLACES * PLACES];
        private final int[] sums = new int[PLACES * PLACES];
        private final int[] turns = new int[PLACES * PLACES];

        /** By all WAYS, one of them (perhaps NONE) as if it was flat. */
        void fill(Text ways, int levelled) {
            for (int pair = 0; pair < PLACES * PLACES; pair++) {
                steps[pair] = UNREACHED;
            }
            for (int w = 0; w < ways.items; w++) {
                int slope = w == levelled ? FLAT : ways.number(w, 3);
                int a = ways.number(w, 0);
                int b = ways.number(w, 1);
                int length = ways.number(w, 2);
                shorten(a * PLACES + b, length * (3 - slope));
                shorten(b * PLACES + a, length * (1 + slope));
            }
            addUp();
            for (int from = 0; from < PLACES; from++) {
                for (int to = 0; to < PLACES; to++) {
                    turns[from * PLACES + to] = firstTurn(from, to);
                }
            }
        }

        private void shorten(int pair, int hours) {
            steps[pair] = Math.min(steps[pair], hours);
        }

        private void addUp() {
            for (int pair = 0; pair < PLACES * PLACES; pair++) {
                sums[pair] = steps[pair];
            }
            for (int p = 0; p < PLACES; p++) {
                sums[p * PLACES + p] = 0;
            }
            for (int by = 0; by < PLACES; by++) {
                for (int from = 0; from < PLACES; from++) {
                    int first = sums[from * PLACES + by];
                    for (int to = 0; first < UNREACHED && to < PLACES; to++) {
                        int sum = first + sums[by * PLACES + to];
                        if (sum < sums[from * PLACES + to]) {
                            sums[from * PLACES + to] = sum;
                        }
                    }
                }
            }
        }

        private int firstTurn(int from, int to) {
            int sum = sums[from * PLACES + to];
            if (from == to || sum >= UNREACHED) {
                return NONE;
            }
            for (int by = 0; by < PLACES; by++) {
                if (steps[from * PLACES + by] + sums[by * PLACES + to] == sum) {
                    return by;
                }
            }
            return NONE;
        }

        /** HOURS by the WAY between two PLACES next to each other. */
        int step(int from, int to) {
            return steps[from * PLACES + to];
        }

        int distance(int from, int to) {
            int sum = sums[from * PLACES + to];
            return sum < UNREACHED ? sum : NONE;
        }

        /** The PLACE to which one goes on; NONE at the end, and if there are no WAYS. */
        int turn(int from, int to) {
            return turns[from * PLACES + to];
        }
    }

    /** All that a run depends on. */
    private static final class Setting {
        final int[] starts = new int[CARTERS];
        final int[] goals = new int[CARTERS];
        final int[] sorts = new int[CARTERS];
        final int[] strengths = new int[CARTERS];
        final int[] loads = new int[CARTERS];
        final int[] lates = new int[CARTERS];
        final Answers answers;
        Chart chart;
        int number = 0;
        int withoutAnswers = 0;

        Setting(Answers answers, Chart chart) {
            this.answers = answers;
            this.chart = chart;
        }

        void take(Text carters) {
            number = carters.items;
            for (int c = 0; c < number; c++) {
                starts[c] = carters.number(c, 0);
                goals[c] = carters.number(c, 1);
                sorts[c] = carters.number(c, 2);
                strengths[c] = 10 * carters.number(c, 3) + carters.number(c, 4);
                loads[c] = carters.number(c, 5);
            }
        }

        int part(int carter, int what) {
            switch (what) {
                case 0: return starts[carter];
                case 1: return goals[carter];
                case 2: return sorts[carter];
                case 3: return strengths[carter];
                default: return loads[carter];
            }
        }

        void become(Setting other) {
            number = other.number;
            chart = other.chart;
            withoutAnswers = other.withoutAnswers;
            for (int c = 0; c < number; c++) {
                starts[c] = other.starts[c];
                goals[c] = other.goals[c];
                sorts[c] = other.sorts[c];
                strengths[c] = other.strengths[c];
                loads[c] = other.loads[c];
                lates[c] = other.lates[c];
            }
        }

        boolean tells(int hour, int place) {
            for (int a = 0; a < answers.number; a++) {
                boolean is = (withoutAnswers >> a & 1) == 0;
                if (is && answers.hours[a] == hour && answers.places[a] == place) {
                    return true;
                }
            }
            return false;
        }

        void swapQuestions(int a, int b) {
            int aSort = sorts[a];
            int aStrength = strengths[a];
            sorts[a] = sorts[b];
            strengths[a] = strengths[b];
            sorts[b] = aSort;
            strengths[b] = aStrength;
        }
    }

    /** What each CARTER did wherever it ARRIVED. */
    private static final class Diary {
        // It gets nearer with each step, so that it is at no PLACE twice.
        private static final int MOST_STEPS = PLACES;
        private final int[] lengths = new int[CARTERS];
        private final int[] hours = new int[CARTERS * MOST_STEPS];
        final int[] places = new int[CARTERS * MOST_STEPS];
        final int[] lefts = new int[CARTERS * MOST_STEPS];
        final int[] whithers = new int[CARTERS * MOST_STEPS];

        void clear(int carter) {
            lengths[carter] = 0;
        }

        void note(int carter, int hour, int place, int left, int whither) {
            if (lengths[carter] >= MOST_STEPS) {
                return;
            }
            int step = carter * MOST_STEPS + lengths[carter];
            hours[step] = hour;
            places[step] = place;
            lefts[step] = left;
            whithers[step] = whither;
            lengths[carter]++;
        }

        /** Where the latest step up to an HOUR is noted; NONE: it is AWAY. */
        int lastStep(int carter, int hour) {
            int last = NONE;
            for (int i = 0; i < lengths[carter]; i++) {
                if (hours[carter * MOST_STEPS + i] <= hour) {
                    last = carter * MOST_STEPS + i;
                }
            }
            return last;
        }
    }

    /** All HOURS of a setting played through. */
    private static final class Run {
        private static final int NO_HOUR = 1000;
        private int number = 0;
        private final int[] arrivals = new int[CARTERS];
        private final int[] lefts = new int[CARTERS];
        private final int[] present = new int[PLACES];
        private final int[] visits = new int[PLACES];
        final int[] places = new int[CARTERS];
        final int[] states = new int[CARTERS];
        final int[] ended = new int[CARTERS];
        final int[] enough = new int[CARTERS];
        final Diary diary = new Diary();
        int meetingHour = NONE;
        int meetingPlace = NONE;

        void play(Setting s) {
            begin(s);
            int hour = soonest();
            for (int i = 0; i < HOURS && hour < HOURS; i++) {
                gather(hour);
                // What is so in the HOUR is told for all before anyone leaves.
                for (int c = 0; c < number; c++) {
                    if (arrivals[c] == hour) {
                        settle(s, c, hour);
                    }
                }
                hour = soonest();
            }
        }

        private void begin(Setting s) {
            number = s.number;
            meetingHour = NONE;
            meetingPlace = NONE;
            for (int p = 0; p < PLACES; p++) {
                visits[p] = 0;
            }
            for (int c = 0; c < number; c++) {
                arrivals[c] = s.lates[c];
                places[c] = s.starts[c];
                lefts[c] = s.strengths[c];
                states[c] = GOING;
                ended[c] = NONE;
                enough[c] = STRENGTHS;
                diary.clear(c);
            }
        }

        private int soonest() {
            int hour = NO_HOUR;
            for (int c = 0; c < number; c++) {
                hour = Math.min(hour, arrivals[c]);
            }
            return hour;
        }

        private void gather(int hour) {
            for (int p = 0; p < PLACES; p++) {
                present[p] = 0;
            }
            for (int c = 0; c < number; c++) {
                if (arrivals[c] == hour || ended[c] != NONE) {
                    present[places[c]]++;
                }
            }
            for (int p = 0; p < PLACES && meetingHour == NONE; p++) {
                if (present[p] > 1) {
                    meetingHour = hour;
                    meetingPlace = p;
                }
            }
        }

        private void settle(Setting s, int c, int hour) {
            int place = places[c];
            int whither = s.chart.turn(place, s.goals[c]);
            int hours = whither == NONE ? 0 : s.chart.step(place, whither);
            int takes = hours + s.loads[c];
            visits[place]++;
            if (place == s.goals[c]) {
                states[c] = COME;
            } else if (isTold(s.sorts[c], place, s.tells(hour, place))) {
                states[c] = TOLD;
            } else if (whither == NONE) {
                states[c] = LOST;
            } else if (lefts[c] < takes) {
                states[c] = TIRED;
                enough[c] = s.strengths[c] - lefts[c] + takes;
            }
            if (states[c] == GOING) {
                lefts[c] -= takes;
                arrivals[c] = hour + hours;
                places[c] = whither;
                diary.note(c, hour, place, lefts[c], whither);
            } else {
                ended[c] = hour;
                arrivals[c] = NO_HOUR;
                diary.note(c, hour, place, lefts[c], NONE);
            }
        }

        private boolean isTold(int sort, int place, boolean isAnswer) {
            return sort != RIDDLE && isAnswer || sort == COMMON && present[place] > 1;
        }

        /** The PLACE at which a CARTER stays behind an HOUR; NONE. */
        int stayBehind(int carter, int hour) {
            return ended[carter] != NONE && ended[carter] <= hour ? places[carter] : NONE;
        }

        int whoIs(int state) {
            int bits = 0;
            for (int c = 0; c < number; c++) {
                if (states[c] == state) {
                    bits |= 1 << c;
                }
            }
            return bits;
        }

        int howMany(int state) {
            return Integer.bitCount(whoIs(state));
        }

        int allArrivals() {
            int sum = 0;
            for (int p = 0; p < PLACES; p++) {
                sum += visits[p];
            }
            return sum;
        }

        /** The PLACE with most arrivals; NONE. */
        int mostArrivals() {
            int most = 0;
            int place = NONE;
            for (int p = 0; p < PLACES; p++) {
                if (visits[p] > most) {
                    most = visits[p];
                    place = p;
                }
            }
            return place;
        }
    }

    /** What had better be: the latest plan's answer stands in best, partner and most. */
    private static final class Plans {
        private final Setting real;
        private final Setting trial;
        private final Run run;
        private final Chart flatChart = new Chart();
        int best = NONE;
        int partner = NONE;
        int most = NONE;

        Plans(Setting real, Setting trial, Run run) {
            this.real = real;
            this.trial = trial;
            this.run = run;
        }

        /** The least STRENGTH by which a CARTER COMES; NONE. */
        int leastStrength(int carter) {
            trial.become(real);
            int strength = 0;
            for (int i = 0; i < STRENGTHS && strength < STRENGTHS; i++) {
                trial.strengths[carter] = strength;
                run.play(trial);
                if (run.states[carter] == COME) {
                    return strength;
                }
                // Less than is enough where it TIRED changes nothing.
                strength = run.enough[carter];
            }
            return NONE;
        }

        void swapQuestions() {
            begin();
            for (int a = 0; a < real.number; a++) {
                for (int b = a + 1; b < real.number; b++) {
                    trial.swapQuestions(a, b);
                    weigh(a, b);
                    trial.swapQuestions(a, b);
                }
            }
        }

        void postpone(int carter) {
            begin();
            for (int late = 0; late < LATES; late++) {
                trial.lates[carter] = late;
                weigh(late, NONE);
            }
        }

        void flatten(Text ways) {
            begin();
            trial.chart = flatChart;
            for (int w = 0; w < ways.items; w++) {
                flatChart.fill(ways, w);
                weigh(w, NONE);
            }
        }

        private void begin() {
            trial.become(real);
            best = NONE;
            partner = NONE;
            most = NONE;
        }

        private void weigh(int first, int other) {
            run.play(trial);
            int come = run.howMany(COME);
            if (come > most) {
                best = first;
                partner = other;
                most = come;
            }
        }
    }

    /** All SEEN, and what it tells: of STRENGTHS in many, least and greatest. */
    private static final class Clues {
        private final Setting real;
        private final Setting trial;
        private final Run run;
        private final int[] hours = new int[SEEN];
        private final int[] who = new int[SEEN];
        private final int[] places = new int[SEEN];
        // The rows of those SORTS that fit: where the CARTER ends, and when.
        private final int[] endPlaces = new int[SORTS];
        private final int[] endHours = new int[SORTS];
        private int fitting = 0;
        int number = 0;
        int many = 0;
        int least = NONE;
        int greatest = NONE;

        Clues(Setting real, Setting trial, Run run) {
            this.real = real;
            this.trial = trial;
            this.run = run;
        }

        void push(int hour, int carter, int place) {
            hours[number] = hour;
            who[number] = carter;
            places[number] = place < PLACES ? place : NONE;
            number++;
        }

        /** Plays the trial: whether all that was SEEN comes out so. */
        private boolean trialFits() {
            run.play(trial);
            for (int i = 0; i < number; i++) {
                if (who[i] >= trial.number || run.stayBehind(who[i], hours[i]) != places[i]) {
                    return false;
                }
            }
            return true;
        }

        /** As bits. */
        int answersThatNeverWere() {
            trial.become(real);
            int bits = 0;
            for (int a = 0; a < real.answers.number; a++) {
                trial.withoutAnswers = 1 << a;
                if (trialFits()) {
                    bits |= 1 << a;
                }
            }
            return bits;
        }

        /** As bits; notes how each of them ends. */
        int sortsOf(int carter) {
            trial.become(real);
            int bits = 0;
            fitting = 0;
            for (int sort = 0; sort < SORTS; sort++) {
                trial.sorts[carter] = sort;
                if (trialFits()) {
                    bits |= 1 << sort;
                    endPlaces[fitting] = run.places[carter];
                    endHours[fitting] = run.ended[carter];
                    fitting++;
                }
            }
            return bits;
        }

        void strengthsOf(int carter) {
            trial.become(real);
            many = 0;
            least = NONE;
            greatest = NONE;
            int strength = 0;
            for (int i = 0; i < STRENGTHS && strength < STRENGTHS; i++) {
                trial.strengths[carter] = strength;
                boolean fits = trialFits();
                // Less than is enough where it TIRED changes nothing.
                int next = Math.min(STRENGTHS, run.enough[carter]);
                if (fits) {
                    least = least == NONE ? strength : least;
                    greatest = next - 1;
                    many += next - strength;
                }
                strength = next;
            }
        }

        /** The HOUR behind which the SORTS that sortsOf has noted are told apart best. */
        int hourToLook() {
            int best = 0;
            int fewest = SORTS + 1;
            for (int hour = 0; hour < HOURS; hour++) {
                int alike = mostAlike(hour);
                if (alike < fewest) {
                    fewest = alike;
                    best = hour;
                }
            }
            return best;
        }

        private int mostAlike(int hour) {
            int most = 0;
            for (int a = 0; a < fitting; a++) {
                int alike = 0;
                for (int b = 0; b < fitting; b++) {
                    if (placeOfFitting(a, hour) == placeOfFitting(b, hour)) {
                        alike++;
                    }
                }
                most = Math.max(most, alike);
            }
            return most;
        }

        private int placeOfFitting(int i, int hour) {
            return endHours[i] != NONE && endHours[i] <= hour ? endPlaces[i] : NONE;
        }
    }

    /** Rumours and markets: the latest FRACTION stands in above and below. */
    private static final class Chances {
        private static final int PARTS = 16;
        private final Setting real;
        private final Setting trial;
        private final Run run;
        private final long[] weights = new long[CARTERS];
        private long all = 1;
        long above = 0;
        long below = 1;

        Chances(Setting real, Setting trial, Run run) {
            this.real = real;
            this.trial = trial;
            this.run = run;
        }

        /** Weighs for all CARTERS the rows of ANSWERS by which they COME. */
        void weigh(int sixteenths) {
            trial.become(real);
            all = 1L << 4 * real.answers.number;
            for (int c = 0; c < CARTERS; c++) {
                weights[c] = 0;
            }
            int rows = 1 << real.answers.number;
            for (int without = 0; without < rows; without++) {
                long weight = weightOf(without, sixteenths);
                if (weight > 0) {
                    trial.withoutAnswers = without;
                    run.play(trial);
                    addWeight(weight);
                }
            }
        }

        private long weightOf(int without, int sixteenths) {
            long weight = 1;
            for (int a = 0; a < real.answers.number; a++) {
                weight *= (without >> a & 1) == 1 ? PARTS - sixteenths : sixteenths;
            }
            return weight;
        }

        private void addWeight(long weight) {
            for (int c = 0; c < real.number; c++) {
                if (run.states[c] == COME) {
                    weights[c] += weight;
                }
            }
        }

        /** The FRACTION of a CARTER; what it is of is a power of 2, so halves will do. */
        void reduce(int carter) {
            above = weights[carter];
            below = all;
            for (int i = 0; i < 63 && below > 1 && above % 2 == 0; i++) {
                above /= 2;
                below /= 2;
            }
        }

        /** How many are so if each STRENGTH is a LOT by a SEED. */
        int drawn(int start, int state) {
            trial.become(real);
            int seed = start;
            for (int c = 0; c < real.number; c++) {
                seed = 1103515245 * seed + 12345;
                trial.strengths[c] = (seed >>> 16) % STRENGTHS;
            }
            run.play(trial);
            return run.howMany(state);
        }
    }

    /** A row of items, each with as many bits as its FORM has. */
    private static final class Sheet {
        final int[] items = new int[ITEMS];
        int form = 0;
        int length = 0;
        boolean lost = true;

        void renew(int newForm, int newLength) {
            form = newForm;
            length = newLength;
            lost = false;
            for (int i = 0; i < ITEMS; i++) {
                items[i] = 0;
            }
        }

        void put(int i, int v) {
            items[i] = form == 0 ? (byte) v : form == 1 ? (short) v : v;
        }

        /** Whether there are n items from i on. */
        boolean has(int i, int n) {
            return i >= 0 && n >= 0 && n <= length && i <= length - n;
        }
    }
}
