/** Promises 22 to 29: SEEN, NEVER, SORT, FORCE, ASK, RUMOUR, MARKET. */
public final class CluesTest {
    private static final long BAD_LONG = Long.MIN_VALUE + 2;

    public static void main(String[] args) {
        seen();
        never();
        sort();
        force();
        ask();
        rumour();
        market();
        Checks.end("CluesTest");
    }

    private static void due(String call, long got, long want) {
        Checks.due(call, got, want);
    }

    private static void seen() {
        QuestionRoad x = new QuestionRoad();
        due("seen(-1, 0, 0)", x.seen(-1, 0, 0), -2);
        due("seen(40, 0, 0)", x.seen(40, 0, 0), -2);
        due("seen(0, -1, 0)", x.seen(0, -1, 0), -2);
        due("seen(0, 8, 0)", x.seen(0, 8, 0), -2);
        due("seen(0, 0, -1)", x.seen(0, 0, -1), -2);
        due("seen(0, 0, 9)", x.seen(0, 0, 9), -2);
        due("forget of none", x.forget(), 0);
        for (int n = 1; n <= 8; n++) {
            due("seen " + n, x.seen(n == 1 ? 0 : 39, n == 2 ? 0 : 7, n == 3 ? 0 : 8), n);
        }
        due("a ninth", x.seen(0, 0, 0), -4);
        due("a ninth, wrong", x.seen(0, 0, 9), -2);
        due("count(7)", x.count(7), 8);
        due("forget", x.forget(), 8);
        due("count(7) of none", x.count(7), 0);
        due("seen after that", x.seen(0, 0, 0), 1);
    }

    private static void never() {
        QuestionRoad x = Checks.road("ab1f", "abo990");
        due("no answers", x.never(), 0);
        x.answer(0, 0);
        x.answer(5, 5);
        due("nothing seen", x.never(), 3);
        x.seen(0, 0, 0);
        due("it is seen at a: the first was", x.never(), 2);
        x.forget();
        x.seen(2, 0, 1);
        due("it is seen at b: the first was not", x.never(), 1);
        x.seen(1, 0, 8);
        due("nor at a place in hour 1", x.never(), 1);
        x.seen(1, 0, 0);
        due("what can't be", x.never(), 0);
        x.forget();
        x.answer(0, 0);
        x.seen(2, 0, 1);
        due("had one of two like ones not been", x.never(), 0);
        x.forget();
        x.seen(0, 1, 8);
        due("a carter that there is not", x.never(), 0);
        for (int p = 0; p < 8; p++) {
            x.forget();
            x.seen(0, 1, p);
            due("nor is it at a place", x.never(), 0);
        }
        x.forget();
        x.seen(0, 1, 8);
        Checks.put(x, 1, "abo990;aao000");
        due("it is there, at a", x.never(), 0);
        x.late(1, 1);
        due("it is there, away", x.never(), 7);
        due("all answers are as they were", x.count(4), 3);
    }

    private static void sort() {
        QuestionRoad x = Checks.road("ab1f;bc1f", "aco990;aar000");
        x.answer(2, 1);
        due("nothing seen", x.sort(0), 7);
        x.seen(0, 0, 0);
        due("told at a: common", x.sort(0), 2);
        x.forget();
        x.seen(2, 0, 1);
        due("told at b: open", x.sort(0), 1);
        x.forget();
        x.seen(4, 0, 2);
        due("it came: a riddle", x.sort(0), 4);
        x.forget();
        x.seen(0, 0, 8);
        due("not told at a: open, a riddle", x.sort(0), 5);
        due("of the other one: its own is no matter", x.sort(1), 7);
        x.seen(0, 0, 7);
        due("what can't be", x.sort(0), 0);
        due("its own stays", x.carter(0, 2), 0);
        x.forget();
        x.seen(0, 2, 8);
        due("a carter that there is not", x.sort(0), 0);
        due("sort(2)", x.sort(2), -2);
        due("sort(-1)", x.sort(-1), -2);
    }

    private static void force(QuestionRoad x, int carter, int many, int least, int greatest) {
        due("force, how many", x.force(carter, 0), many);
        due("force, the least", x.force(carter, 1), least);
        due("force, the greatest", x.force(carter, 2), greatest);
    }

    private static void force() {
        QuestionRoad x = Checks.road("ab2u;bc1f", "aco301;bbc000");
        force(x, 0, 100, 0, 99);
        x.seen(39, 0, 0);
        force(x, 0, 7, 0, 6);
        x.forget();
        x.seen(6, 0, 1);
        force(x, 0, 3, 7, 9);
        x.forget();
        x.seen(39, 0, 2);
        force(x, 0, 90, 10, 99);
        x.forget();
        x.seen(0, 0, 8);
        force(x, 0, 93, 7, 99);
        x.seen(7, 0, 2);
        force(x, 0, 0, -1, -1);
        force(x, 1, 0, -1, -1);
        x.forget();
        x.seen(3, 2, 8);
        force(x, 0, 0, -1, -1);
        due("its own stays", x.carter(0, 3), 30);
        due("force(2, 0)", x.force(2, 0), -2);
        due("force(-1, 0)", x.force(-1, 0), -2);
        due("force(0, 3)", x.force(0, 3), -2);
        due("force(0, -1)", x.force(0, -1), -2);
        // What another one does tells of it: a common one is told at b if it is there.
        x = Checks.road("ab1f;cb5f;bd1f", "adr990;cdc990");
        x.seen(39, 1, 1);
        force(x, 0, 2, 2, 3);
        x.forget();
        x.seen(39, 1, 3);
        force(x, 0, 98, 0, 99);
    }

    private static void ask() {
        QuestionRoad x = Checks.road("ab1f;bc1f", "aco990;aar000");
        x.answer(2, 1);
        due("all three stay elsewhere behind hour 2", x.ask(0), 2);
        x.seen(0, 0, 8);
        due("open and riddle", x.ask(0), 2);
        x.seen(4, 0, 2);
        due("the riddle alone", x.ask(0), 0);
        x.seen(4, 0, 1);
        due("none of them", x.ask(0), 0);
        x.forget();
        x.seen(4, 2, 8);
        due("none, for one that there is not", x.ask(0), 0);
        x.forget();
        x.back();
        due("open and riddle are like, the common one apart from hour 0 on", x.ask(0), 0);
        due("all are like", x.ask(1), 0);
        x.late(0, 4);
        due("all are away until hour 4", x.ask(0), 4);
        x.answer(6, 1);
        due("apart from hour 6 on", x.ask(0), 6);
        due("ask(2)", x.ask(2), -2);
        due("ask(-1)", x.ask(-1), -2);
    }

    private static void rumour(QuestionRoad x, int c, int carter, long above, long below) {
        due("rumour(" + c + ", " + carter + ") above", x.rumour(c, carter, 0), above);
        due("rumour(" + c + ", " + carter + ") below", x.rumour(c, carter, 1), below);
    }

    private static void rumour() {
        QuestionRoad x = Checks.road("ab1f", "abo990;aho990;abr990");
        rumour(x, 5, 0, 1, 1);
        rumour(x, 5, 1, 0, 1);
        x.answer(0, 0);
        rumour(x, 5, 0, 11, 16);
        rumour(x, 4, 0, 3, 4);
        rumour(x, 0, 0, 1, 1);
        rumour(x, 16, 0, 0, 1);
        rumour(x, 16, 2, 1, 1);
        x.answer(3, 3);
        rumour(x, 4, 0, 3, 4);
        x.answer(0, 0);
        rumour(x, 4, 0, 9, 16);
        rumour(x, 6, 0, 25, 64);
        for (int n = 2; n >= 0; n--) {
            due("back", x.back(), n);
        }
        x.sheet(0, 0, 16);
        due("eight like ones", x.read(0), 8);
        rumour(x, 1, 0, 2562890625L, 4294967296L);
        rumour(x, 15, 0, 1, 4294967296L);
        rumour(x, 8, 0, 1, 256);
        rumour(x, 8, 1, 0, 1);
        rumour(x, 8, 2, 1, 1);
        due("all answers are as they were", x.who(3), 3);
        long[] bad = {x.rumour(-1, 0, 0), x.rumour(17, 0, 0), x.rumour(0, -1, 0), x.rumour(0, 3, 0),
            x.rumour(0, 0, -1), x.rumour(0, 0, 2)};
        for (long answer : bad) {
            due("rumour, wrong", answer, BAD_LONG);
        }
        // One is told, so that the other one, a common one, comes upon nobody: chances that hang together.
        x = Checks.road("ab1f;bc1f", "aco990;bcc990");
        x.late(1, 2);
        rumour(x, 8, 1, 0, 1);
        x.answer(0, 0);
        rumour(x, 8, 1, 1, 2);
        x.answer(2, 1);
        rumour(x, 8, 1, 1, 4);
        rumour(x, 8, 0, 1, 4);
    }

    /** The LOT by longs: the SEED as a number below 2 to the 32. */
    private static int lot(long[] seed) {
        seed[0] = (1103515245L * seed[0] + 12345L) & 0xffffffffL;
        return (int) (seed[0] / 65536 % 100);
    }

    private static void market() {
        QuestionRoad x = new QuestionRoad();
        due("nobody", x.market(0, 0), 0);
        due("nobody is tired", x.market(0, 1), 0);
        due("market(0, 2)", x.market(0, 2), -2);
        due("market(0, -1)", x.market(0, -1), -2);
        x = Checks.road("ab9f", "abr009;bar990;aho990;abr509;bbr001;abr000;bar005;bar995");
        int[] takes = {27, 18, 999, 27, 0, 18, 23, 23};
        int[] seeds = {0, 1, 7, -1, 65535, 65536, 123456789, Integer.MAX_VALUE, Integer.MIN_VALUE};
        for (int start : seeds) {
            long[] seed = {start & 0xffffffffL};
            int come = 0;
            int tired = 0;
            for (int c = 0; c < 8; c++) {
                int strength = lot(seed);
                come += c != 2 && strength >= takes[c] ? 1 : 0;
                tired += c != 2 && strength < takes[c] ? 1 : 0;
            }
            due("market(" + start + ", 0)", x.market(start, 0), come);
            due("market(" + start + ", 1)", x.market(start, 1), tired);
        }
        due("their own stay", x.carter(1, 3), 99);
    }
}
