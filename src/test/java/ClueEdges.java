import java.math.BigInteger;

/** Edges of promises 22 to 29, sentence by sentence: SEEN, and what it tells; rumours, markets. */
final class ClueEdges {
    private static final long BAD_LONG = Long.MIN_VALUE + 2;
    private static final int[] SEEDS = {0, 1, -1, 7, Integer.MAX_VALUE, Integer.MIN_VALUE, 65535, 65536, -12345};

    private ClueEdges() {
    }

    static void all() {
        seen();
        forget();
        never();
        neverWithOneThatThereIsNot();
        sort();
        force();
        forceOfOthers();
        ask();
        askTheLastHour();
        rumourOfOne();
        rumourOfMany();
        rumourRefusals();
        marketByLots();
        marketLots();
        marketRefusals();
    }

    private static void due(QuestionRoad x, long want, String name, int... args) {
        Face.due(x, want, name, args);
    }

    private static void seen() {
        Sentences.promise(22, "SEEN more: how many.");
        int[][] edges = {{0, 0, 0}, {39, 7, 8}, {39, 7, 8}, {0, 0, 8}, {0, 7, 0}, {39, 0, 0}, {39, 0, 7}, {1, 1, 1}};
        QuestionRoad x = new QuestionRoad();
        for (int n = 0; n < 8; n++) {
            due(x, n + 1, "seen", edges[n][0], edges[n][1], edges[n][2]);
            due(x, n + 1, "count", 7);
        }
        for (int[] wrong : new int[][] {{-1, 0, 0}, {40, 0, 0}, {0, -1, 0}, {0, 8, 0}, {0, 0, -1}, {0, 0, 9}}) {
            due(x, -2, "seen", wrong);
            due(new QuestionRoad(), -2, "seen", wrong);
        }
        Sentences.term("SEEN, 8 at most");
        due(x, -4, "seen", 0, 0, 0);
        due(x, 8, "count", 7);
    }

    private static void forget() {
        Sentences.promise(23, "All SEEN are forgotten: how many.");
        QuestionRoad x = Checks.road("", "aar000");
        due(x, 0, "forget");
        x.seen(0, 0, 1);
        due(x, 0, "sort", 0);
        due(x, 1, "forget");
        due(x, 7, "sort", 0);
        for (int n = 1; n <= 8; n++) {
            due(x, n, "seen", 0, 0, 1);
        }
        due(x, 8, "forget");
        due(x, 0, "count", 7);
        due(x, 0, "forget");
        due(x, 7, "sort", 0);
        due(x, 1, "seen", 0, 0, 0);
        due(x, 7, "sort", 0);
    }

    /** One that is told at a by the last of n ANSWERS, the others telling nobody. */
    private static QuestionRoad toldByTheLast(int n) {
        QuestionRoad x = Checks.road("ab1d", "abo990");
        for (int i = 1; i < n; i++) {
            x.answer(39, 7);
        }
        x.answer(0, 0);
        return x;
    }

    private static void never() {
        Sentences.promise(24, "NEVER, as bits.");
        due(new QuestionRoad(), 0, "never");
        due(Checks.road("ab1d", "abo990"), 0, "never");
        for (int n = 1; n <= 8; n++) {
            QuestionRoad x = toldByTheLast(n);
            due(x, (1 << n) - 1, "never");
            x.seen(1, 0, 1);
            due(x, 1 << n - 1, "never");
            x.forget();
            x.seen(0, 0, 0);
            due(x, (1 << n - 1) - 1, "never");
            x.seen(0, 0, 1);
            due(x, 0, "never");
        }
        Sentences.term("ANSWERS each of which, had it alone not been, makes all that was SEEN come out so, as bits.");
        QuestionRoad x = toldByTheLast(2);
        x.seen(1, 0, 1);
        due(x, 2, "never");
        x.answer(0, 0);
        due(x, 0, "never");
        due(x, 2, "back");
        x.seen(39, 0, 1);
        due(x, 2, "never");
        x.seen(0, 0, 8);
        due(x, 2, "never");
        x.seen(1, 0, 8);
        due(x, 0, "never");
    }

    private static void neverWithOneThatThereIsNot() {
        Sentences.term("a CARTER (0 to 7; one that there is not: never)");
        for (int place = 0; place <= 8; place++) {
            QuestionRoad x = toldByTheLast(1);
            x.seen(0, 1, place);
            due(x, 0, "never");
            due(x, 0, "sort", 0);
            Face.dueRow(x, Face.row(0, -1, -1), "force", 0);
            due(x, 0, "ask", 0);
            Checks.put(x, 1, "abo990;aar000");
            due(x, place == 0 ? 1 : 0, "never");
            x.late(1, 1);
            due(x, place == 8 ? 1 : 0, "never");
        }
        Sentences.term("stays at a PLACE (0 to 7; 8: at none)");
        QuestionRoad x = Checks.road("ab2d", "abr990");
        x.late(0, 1);
        for (int place = 0; place <= 8; place++) {
            for (int hour : new int[] {0, 1, 2, 3, 39}) {
                x.seen(hour, 0, place);
                due(x, place == (hour < 3 ? 8 : 1) ? 7 : 0, "sort", 0);
                x.forget();
            }
        }
    }

    /** A common one is told at a in HOUR 0, an open one at b in HOUR 1, a riddle comes to c in HOUR 2. */
    private static QuestionRoad threeRoads() {
        QuestionRoad x = Checks.road("ab1d;bc1d", "aco990;aar000");
        x.answer(1, 1);
        return x;
    }

    private static void sort() {
        Sentences.promise(25, "SORT, as bits.");
        int[][] wants = {{0, 0, 2}, {1, 1, 1}, {2, 2, 4}, {0, 8, 5}, {1, 8, 4}, {2, 8, 0}, {0, 1, 0}, {39, 2, 4}};
        for (int[] w : wants) {
            QuestionRoad x = threeRoads();
            due(x, 7, "sort", 0);
            x.seen(w[0], 0, w[1]);
            due(x, w[2], "sort", 0);
            x.seen(0, 1, 0);
            due(x, w[2], "sort", 0);
            x.seen(0, 1, 8);
            due(x, 0, "sort", 0);
            due(x, 0, "carter", 0, 2);
        }
        due(threeRoads(), -2, "sort", -1);
        due(threeRoads(), -2, "sort", 2);
        due(new QuestionRoad(), -2, "sort", 0);
        Sentences.term("0 o, 1 c, 2 r, in place of its own, likewise, as bits");
        for (String own : new String[] {"o", "c", "r"}) {
            QuestionRoad x = Checks.road("ab1d", "ab" + own + "990");
            x.answer(0, 0);
            x.seen(0, 0, 0);
            due(x, 3, "sort", 0);
            x.forget();
            x.seen(1, 0, 1);
            due(x, 4, "sort", 0);
        }
    }

    private static void force(QuestionRoad x, int carter, int many, int least, int greatest) {
        Face.dueRow(x, Face.row(many, least, greatest, -2), "force", carter);
    }

    private static void force() {
        Sentences.promise(26, "FORCE: how many (what = 0), the least (1), the greatest (2); NONE.");
        QuestionRoad x = Checks.road("ab1d;bc1d", "acr500");
        force(x, 0, 100, 0, 99);
        int[][] wants = {{39, 0, 1, 0, 0}, {39, 1, 1, 1, 1}, {39, 2, 98, 2, 99}, {0, 8, 99, 1, 99}, {1, 8, 98, 2, 99},
            {39, 3, 0, -1, -1}};
        for (int[] w : wants) {
            x.seen(w[0], 0, w[1]);
            force(x, 0, w[2], w[3], w[4]);
            x.forget();
        }
        due(x, -2, "force", -1, 0);
        due(x, -2, "force", 1, 0);
        due(x, -2, "force", 0, -1);
        due(new QuestionRoad(), -2, "force", 0, 0);
        Sentences.term("STRENGTHS (0 to 99), in place of its own, likewise: how many; the least; the greatest; NONE.");
        for (String own : new String[] {"00", "98", "99"}) {
            x = Checks.road(PlanEdges.THROUGH_ALL, "ahr" + own + "9");
            x.seen(39, 0, 7);
            force(x, 0, 1, 99, 99);
            x.forget();
            x.seen(39, 0, 6);
            force(x, 0, 13, 86, 98);
        }
    }

    private static void forceOfOthers() {
        // The other one, a common one, is told at b if the first stays there: by 1 alone.
        QuestionRoad x = Checks.road("ab1d;cb2d;bd1d", "adr990;cdc990");
        x.seen(39, 1, 1);
        force(x, 0, 1, 1, 1);
        x.forget();
        x.seen(39, 1, 3);
        force(x, 0, 99, 0, 99);
        x.seen(0, 1, 2);
        force(x, 0, 0, -1, -1);
    }

    private static void ask() {
        Sentences.promise(27, "ASK.");
        due(threeRoads(), 1, "ask", 0);
        due(threeRoads(), 0, "ask", 1);
        due(threeRoads(), -2, "ask", -1);
        due(threeRoads(), -2, "ask", 2);
        due(new QuestionRoad(), -2, "ask", 0);
        Sentences.term("the HOUR behind which the greatest number of those SORTS"
            + " by which it stays at the like PLACE (or none) is least");
        int[][] wants = {{0, 8, 1}, {1, 8, 0}, {0, 0, 0}, {2, 2, 0}, {2, 8, 0}};
        for (int[] w : wants) {
            QuestionRoad x = threeRoads();
            x.seen(w[0], 0, w[1]);
            due(x, w[2], "ask", 0);
        }
        // Three that go apart into one and two, at once and later on: the first HOUR is as good.
        QuestionRoad x = Checks.road("ab1d", "abr990");
        x.answer(0, 0);
        due(x, 0, "ask", 0);
        x.late(0, 9);
        due(x, 0, "ask", 0);
        x.answer(9, 0);
        due(x, 9, "ask", 0);
    }

    private static void askTheLastHour() {
        Sentences.term("is least, of like ones the least.");
        QuestionRoad x = Checks.road("ab9u;bc6f;cd1d", "adr990");
        x.answer(39, 2);
        due(x, 39, "ask", 0);
        x.late(0, 1);
        due(x, 0, "ask", 0);
    }

    private static void rumour(QuestionRoad x, int c, int carter, BigInteger part, BigInteger whole) {
        BigInteger common = part.gcd(whole);
        due(x, part.divide(common).longValueExact(), "rumour", c, carter, 0);
        due(x, whole.divide(common).longValueExact(), "rumour", c, carter, 1);
    }

    private static BigInteger big(long v) {
        return BigInteger.valueOf(v);
    }

    private static void rumourOfOne() {
        Sentences.promise(28, "RUMOUR: above, below.");
        QuestionRoad x = toldByTheLast(1);
        for (int c = 0; c <= 16; c++) {
            rumour(x, c, 0, big(16 - c), big(16));
        }
        Sentences.term("FRACTIONS are told in lowest terms, above and below (0 by 1).");
        due(x, 0, "rumour", 16, 0, 0);
        due(x, 1, "rumour", 16, 0, 1);
        due(x, 1, "rumour", 0, 0, 0);
        due(x, 1, "rumour", 0, 0, 1);
        due(x, 1, "rumour", 8, 0, 0);
        due(x, 2, "rumour", 8, 0, 1);
        due(x, 15, "rumour", 1, 0, 0);
        due(x, 16, "rumour", 1, 0, 1);
        x = Checks.road("ab1d", "abo990;aho990");
        for (int c = 0; c <= 16; c++) {
            rumour(x, c, 0, big(1), big(1));
            rumour(x, c, 1, big(0), big(1));
        }
    }

    private static void rumourOfMany() {
        Sentences.term("each of ANSWERS is by c sixteenths (0 to 16), by itself");
        for (int n = 2; n <= 8; n++) {
            QuestionRoad alike = Checks.road("ab1d", "abo990;abr990");
            QuestionRoad onTheRoad = Checks.road("ab1d;bc1d;cd1d;de1d;ef1d;fg1d;gh1d", "aho990");
            for (int i = 0; i < n; i++) {
                alike.answer(0, 0);
                onTheRoad.answer(i, i);
            }
            for (int c = 0; c <= 16; c++) {
                rumour(alike, c, 0, big(16 - c).pow(n), big(16).pow(n));
                rumour(alike, c, 1, big(1), big(1));
                // The eighth is at its GOAL, in the HOUR in which it comes there.
                int told = Math.min(n, 7);
                rumour(onTheRoad, c, 0, big(16 - c).pow(told), big(16).pow(told));
            }
        }
        QuestionRoad x = toldByTheLast(8);
        rumour(x, 1, 0, big(15), big(16));
        due(x, 1, "who", 3);
        due(x, 8, "count", 4);
    }

    private static void rumourRefusals() {
        Sentences.promise(28, "BAD. (As the least long.)");
        QuestionRoad x = Checks.road("", "aar000");
        for (int[] wrong : new int[][] {{-1, 0, 0}, {17, 0, 0}, {0, -1, 0}, {0, 1, 0}, {0, 0, -1}, {0, 0, 2}}) {
            due(x, BAD_LONG, "rumour", wrong);
        }
        due(new QuestionRoad(), BAD_LONG, "rumour", 0, 0, 0);
        Sentences.term("Where the answer is a long, a refusal -x is the least long and x more.");
        Checks.due("BAD as a long", x.rumour(17, 0, 0) - Long.MIN_VALUE, 2);
    }

    /** The n-th LOT of 100 by a SEED, by numbers that do not wrap by themselves. */
    private static int lot(int seed, int n) {
        BigInteger s = big(seed);
        BigInteger all = BigInteger.ONE.shiftLeft(32);
        for (int i = 0; i <= n; i++) {
            s = s.multiply(big(1103515245)).add(big(12345)).mod(all);
        }
        return s.shiftRight(16).mod(big(100)).intValue();
    }

    private static void marketByLots() {
        Sentences.promise(29, "MARKET: how many COME (what = 0), are TIRED (1).");
        for (int seed : SEEDS) {
            // Of all but one it is no matter; that one takes 12.
            for (int n = 0; n < 8; n++) {
                String carters = "bbr000;bbr000;bbr000;bbr000;bbr000;bbr000;bbr000;".substring(0, 7 * n) + "abr009";
                QuestionRoad x = Checks.road("ab3d", carters);
                boolean comes = lot(seed, n) >= 12;
                Face.dueRow(x, Face.row(n + (comes ? 1 : 0), comes ? 0 : 1, -2), "market", seed);
            }
        }
        QuestionRoad x = Checks.road("ab1d", "abo990;aho990;aar000");
        x.answer(0, 0);
        Face.dueRow(x, Face.row(1, 0, -2), "market", 7);
        due(x, 99, "carter", 0, 3);
    }

    /** A SEED whose first LOT is so; its first bit as told, for that tells whether the number is from 0 on. */
    private static int seedOf(int lot, boolean firstBit) {
        for (int seed = 0; seed < 100000; seed++) {
            if (lot(seed, 0) == lot && seed * 1103515245 + 12345 < 0 == firstBit) {
                return seed;
            }
        }
        throw new IllegalStateException("no SEED for " + lot);
    }

    private static void marketLots() {
        Sentences.term("SEED becomes 1103515245 SEED and 12345, as ints that wrap;"
            + " its upper 16 bits as a number from 0 on, modulo m.");
        QuestionRoad greatest = Checks.road(PlanEdges.THROUGH_ALL, "ahr009");
        QuestionRoad least = Checks.road("ab1d", "abr000");
        for (boolean firstBit : new boolean[] {false, true}) {
            Face.dueRow(greatest, Face.row(1, 0), "market", seedOf(99, firstBit));
            Face.dueRow(greatest, Face.row(0, 1), "market", seedOf(98, firstBit));
            Face.dueRow(least, Face.row(0, 1), "market", seedOf(0, firstBit));
            Face.dueRow(least, Face.row(1, 0), "market", seedOf(1, firstBit));
        }
    }

    private static void marketRefusals() {
        Sentences.promise(29, "BAD.");
        QuestionRoad x = new QuestionRoad();
        for (int seed : SEEDS) {
            due(x, 0, "market", seed, 0);
            due(x, 0, "market", seed, 1);
            due(x, -2, "market", seed, -1);
            due(x, -2, "market", seed, 2);
        }
    }
}
