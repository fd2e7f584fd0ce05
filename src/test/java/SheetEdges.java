import java.math.BigInteger;

/** Edges of promises 30 to 37, sentence by sentence: SHEETS, counts, the digest. */
final class SheetEdges {
    private static final int LEAST = Integer.MIN_VALUE;
    private static final int GREATEST = Integer.MAX_VALUE;

    private SheetEdges() {
    }

    static void all() {
        sizes();
        aNewRow();
        lose();
        lay();
        lowestBits();
        get();
        copy();
        copyToItself();
        copyRefusals();
        write();
        count();
        counted();
        digest();
        theLastCall();
    }

    private static void due(QuestionRoad x, long want, String name, int... args) {
        Face.due(x, want, name, args);
    }

    /** An answer, and the number of the latest FINDING behind it. */
    private static void found(QuestionRoad x, long want, int finding, String name, int... args) {
        due(x, want, name, args);
        Checks.due("count(8) behind " + Face.shown(name, args), x.count(8), finding);
    }

    private static void sizes() {
        Sentences.promise(30, "A SHEET is a new row of a FORM with n items: n.");
        for (int s = 0; s < 4; s++) {
            for (int form = 0; form < 3; form++) {
                QuestionRoad x = new QuestionRoad();
                found(x, 0, 0, "sheet", s, form, 0);
                found(x, 1, 0, "sheet", s, form, 1);
                found(x, 60, 0, "sheet", s, form, 60);
                due(x, 0, "get", s, form, 59);
                found(x, 60, 0, "lose", s);
            }
        }
        Sentences.promise(30, "BAD: SHEET, FORM, above 60; SIZE.");
        QuestionRoad x = new QuestionRoad();
        int[][] wrongs = {{-1, 0, 0}, {4, 0, 0}, {0, -1, 0}, {0, 3, 0}, {0, 0, 61}, {0, 0, GREATEST}, {4, 0, -1}, {0, 3, -1}};
        for (int[] wrong : wrongs) {
            found(x, -2, 0, "sheet", wrong);
        }
        found(x, -15, 5, "sheet", 0, 0, -1);
        found(x, -11, 1, "lose", 0);
        Sentences.term("5 SIZE: below 0.");
        found(x, -15, 5, "sheet", 3, 2, LEAST);
        found(x, -11, 1, "lose", 3);
        x.sheet(3, 2, 1);
        x.lay(3, 2, 0, 9);
        found(x, -15, 5, "sheet", 3, 2, -1);
        found(x, -2, 5, "sheet", 3, 2, 61);
        due(x, 9, "get", 3, 2, 0);
    }

    private static void aNewRow() {
        Sentences.term("SHEETS 0 .. 3 are LOST (at first) or a row of a FORM: 0 bytes, 1 shorts, 2 ints,"
            + " of 0 to 60 items (0 at first).");
        QuestionRoad x = new QuestionRoad();
        for (int s = 0; s < 4; s++) {
            due(x, -11, "lose", s);
        }
        x.sheet(1, 2, 60);
        for (int i = 0; i < 60; i++) {
            due(x, 0, "get", 1, 2, i);
            x.lay(1, 2, i, 5);
        }
        due(x, 60, "sheet", 1, 2, 60);
        for (int i = 0; i < 60; i++) {
            due(x, 0, "get", 1, 2, i);
        }
        x.lay(1, 2, 0, 5);
        x.lay(1, 2, 59, 5);
        due(x, 60, "lose", 1);
        due(x, 60, "sheet", 1, 0, 60);
        due(x, 0, "get", 1, 0, 0);
        due(x, 0, "get", 1, 0, 59);
        found(x, LEAST, 3, "get", 1, 2, 0);
        due(x, 1, "sheet", 1, 0, 1);
        found(x, LEAST, 2, "get", 1, 0, 1);
        due(x, -11, "lose", 0);
        due(x, -11, "lose", 2);
    }

    private static void lose() {
        Sentences.promise(31, "It is LOST: how many items it had.");
        QuestionRoad x = new QuestionRoad();
        for (int n : new int[] {0, 1, 59, 60}) {
            x.sheet(2, 1, n);
            due(x, n, "lose", 2);
            found(x, LEAST, 1, "get", 2, 1, 0);
        }
        Sentences.promise(31, "BAD; NULL.");
        x = new QuestionRoad();
        found(x, -2, 0, "lose", -1);
        found(x, -2, 0, "lose", 4);
        Sentences.term("1 NULL: the SHEET is LOST");
        found(x, -11, 1, "lose", 3);
        found(x, -11, 1, "lose", 3);
        x.sheet(2, 1, 1);
        due(x, 1, "lose", 2);
        due(x, -11, "lose", 2);
    }

    private static void lay() {
        Sentences.promise(32, "Item i, treated as of a FORM, becomes v (the lowest bits that it has): 1.");
        QuestionRoad x = new QuestionRoad();
        x.sheet(0, 1, 60);
        due(x, 1, "lay", 0, 1, 0, 5);
        due(x, 1, "lay", 0, 1, 59, 6);
        due(x, 5, "get", 0, 1, 0);
        due(x, 0, "get", 0, 1, 1);
        due(x, 0, "get", 0, 1, 58);
        due(x, 6, "get", 0, 1, 59);
        Sentences.promise(32, "BAD; NULL; CAST; INDEX.");
        for (int[] wrong : new int[][] {{-1, 1}, {4, 1}, {0, -1}, {0, 3}}) {
            found(x, -2, 0, "lay", wrong[0], wrong[1], 0, 9);
        }
        found(x, -11, 1, "lay", 1, 1, 60, 9);
        Sentences.term("3 CAST: it has another FORM");
        found(x, -13, 3, "lay", 0, 0, 60, 9);
        found(x, -13, 3, "lay", 0, 2, 0, 9);
        Sentences.term("2 INDEX: there is no such item");
        for (int i : new int[] {-1, 60, LEAST, GREATEST}) {
            found(x, -12, 2, "lay", 0, 1, i, 9);
        }
        due(x, 5, "get", 0, 1, 0);
        due(x, 6, "get", 0, 1, 59);
        x.sheet(0, 1, 0);
        found(x, -12, 2, "lay", 0, 1, 0, 9);
    }

    private static void lowestBits() {
        Sentences.promise(32, "becomes v (the lowest bits that it has)");
        int[][] bytes = {{127, 127}, {128, -128}, {255, -1}, {256, 0}, {-128, -128}, {-129, 127}, {LEAST, 0}, {GREATEST, -1}};
        int[][] shorts = {{128, 128}, {32767, 32767}, {32768, -32768}, {65535, -1}, {65536, 0}, {-32769, 32767},
            {LEAST, 0}, {GREATEST, -1}};
        int[][] ints = {{65536, 65536}, {-1, -1}, {LEAST + 1, LEAST + 1}, {GREATEST, GREATEST}};
        int[][][] all = {bytes, shorts, ints};
        for (int form = 0; form < 3; form++) {
            QuestionRoad x = new QuestionRoad();
            x.sheet(3, form, 1);
            for (int[] pair : all[form]) {
                due(x, 1, "lay", 3, form, 0, pair[0]);
                due(x, pair[1], "get", 3, form, 0);
            }
        }
    }

    private static void get() {
        Sentences.promise(33, "Item i of it.");
        QuestionRoad x = new QuestionRoad();
        x.sheet(0, 2, 2);
        x.lay(0, 2, 1, LEAST);
        found(x, 0, 0, "get", 0, 2, 0);
        found(x, LEAST, 0, "get", 0, 2, 1);
        Sentences.promise(33, "BAD: the least int; so are NULL, CAST, INDEX (count() 8 tells).");
        for (int[] wrong : new int[][] {{-1, 2, 0}, {4, 2, 0}, {0, -1, 0}, {0, 3, 0}, {1, 3, 9}}) {
            found(x, LEAST, 0, "get", wrong);
        }
        found(x, LEAST, 1, "get", 1, 2, 9);
        found(x, LEAST, 3, "get", 0, 1, 9);
        for (int i : new int[] {-1, 2, LEAST, GREATEST}) {
            found(x, LEAST, 1, "get", 1, 2, 0);
            found(x, LEAST, 2, "get", 0, 2, i);
        }
        found(x, LEAST, 2, "get", 4, 2, 0);
    }

    /** SHEET 1 has four items, 10 on, SHEET 2 has five, 20 on; 3 has another FORM, 0 is LOST. */
    private static QuestionRoad rows() {
        QuestionRoad x = new QuestionRoad();
        x.sheet(1, 2, 4);
        x.sheet(2, 2, 5);
        x.sheet(3, 1, 6);
        for (int s = 1; s <= 2; s++) {
            for (int i = 0; i < 3 + s; i++) {
                x.lay(s, 2, i, 10 * s + i);
            }
        }
        return x;
    }

    private static void copied(int[] args, int... want) {
        QuestionRoad x = rows();
        found(x, 1, 0, "copy", args);
        int to = args[2];
        for (int i = 0; i < want.length; i++) {
            Checks.due("item " + i + " behind " + Face.shown("copy", args), x.get(to, 2, i), want[i]);
        }
        int other = 3 - to;
        for (int i = 0; i < 4; i++) {
            Checks.due("item " + i + " of the other one", x.get(other, 2, i), 10 * other + i);
        }
    }

    private static void copy() {
        Sentences.promise(34, "n items of SHEET s, from i on, come to SHEET t (perhaps s, as they were), from j on: 1.");
        copied(new int[] {1, 0, 2, 0, 4}, 10, 11, 12, 13, 24);
        copied(new int[] {1, 0, 2, 1, 4}, 20, 10, 11, 12, 13);
        copied(new int[] {2, 1, 1, 0, 4}, 21, 22, 23, 24);
        copied(new int[] {2, 4, 1, 3, 1}, 10, 11, 12, 24);
        copied(new int[] {1, 0, 2, 0, 0}, 20, 21, 22, 23, 24);
        copied(new int[] {1, 4, 2, 5, 0}, 20, 21, 22, 23, 24);
        for (int form = 0; form < 3; form++) {
            QuestionRoad x = new QuestionRoad();
            x.sheet(1, form, 60);
            x.sheet(2, form, 60);
            x.lay(1, form, 0, 3);
            x.lay(1, form, 59, -4);
            due(x, 1, "copy", 1, 0, 2, 0, 60);
            due(x, 3, "get", 2, form, 0);
            due(x, -4, "get", 2, form, 59);
        }
        QuestionRoad x = new QuestionRoad();
        x.sheet(1, 0, 0);
        found(x, 1, 0, "copy", 1, 0, 1, 0, 0);
    }

    private static void copyToItself() {
        Sentences.promise(34, "(perhaps s, as they were)");
        copied(new int[] {2, 0, 2, 1, 4}, 20, 20, 21, 22, 23);
        copied(new int[] {2, 1, 2, 0, 4}, 21, 22, 23, 24, 24);
        copied(new int[] {2, 0, 2, 0, 5}, 20, 21, 22, 23, 24);
        copied(new int[] {2, 0, 2, 2, 3}, 20, 21, 20, 21, 22);
        copied(new int[] {2, 5, 2, 5, 0}, 20, 21, 22, 23, 24);
    }

    private static void copyRefusals() {
        Sentences.promise(34, "BAD: the SHEETS; NULL: s, t; STORE; INDEX: below 0, not so many.");
        QuestionRoad x = rows();
        for (int[] wrong : new int[][] {{-1, 2}, {4, 2}, {1, -1}, {1, 4}, {4, 0}, {0, 4}}) {
            found(x, -2, 0, "copy", wrong[0], -1, wrong[1], -1, -1);
        }
        found(x, -11, 1, "copy", 0, -1, 3, -1, -1);
        found(x, -14, 4, "copy", 1, -1, 3, -1, -1);
        found(x, -11, 1, "copy", 3, -1, 0, -1, -1);
        found(x, -11, 1, "copy", 0, 0, 0, 0, 0);
        Sentences.term("4 STORE: unlike FORMS");
        found(x, -14, 4, "copy", 3, 0, 2, 0, 1);
        found(x, -14, 4, "copy", 2, 0, 3, 0, 0);
        Sentences.promise(34, "INDEX: below 0, not so many.");
        int[][] wrongs = {{-1, 0, 1}, {0, -1, 1}, {0, 0, -1}, {-1, 0, 0}, {0, -1, 0}, {0, 0, 5}, {1, 0, 4}, {4, 0, 1}, {5, 0, 0},
            {0, 2, 4}, {0, 5, 1}, {0, 6, 0}, {GREATEST, 0, 1}, {1, 0, GREATEST}, {0, GREATEST, 1}, {0, 1, GREATEST},
            {LEAST, 0, 1}, {0, LEAST, 1}, {0, 0, LEAST}, {GREATEST, GREATEST, GREATEST}, {LEAST, LEAST, LEAST}};
        for (int[] w : wrongs) {
            found(x, -14, 4, "copy", 2, 0, 3, 0, 0);
            found(x, -12, 2, "copy", 1, w[0], 2, w[1], w[2]);
        }
        for (int i = 0; i < 5; i++) {
            due(x, 20 + i, "get", 2, 2, i);
        }
    }

    private static void write() {
        Sentences.promise(35, "comes to a SHEET from item 0 on, as many as there are items, 40 at most: how many.");
        for (int form = 0; form < 3; form++) {
            for (int n : new int[] {0, 1, 39, 40, 41, 60}) {
                QuestionRoad x = Checks.road(HourEdges.TO_THE_LAST_HOUR, "hhr000;acr990");
                x.late(0, 9);
                x.sheet(2, form, n);
                x.lay(2, form, n - 1, 99);
                due(x, Math.min(n, 40), "write", 1, 2);
                for (int i = 0; i < n; i++) {
                    due(x, i < 39 ? -1 : i == 39 ? 2 : i == n - 1 ? 99 : 0, "get", 2, form, i);
                }
                due(x, Math.min(n, 40), "write", 0, 2);
                for (int i = 0; i < n; i++) {
                    due(x, i < 9 ? -1 : i < 40 ? 7 : i == n - 1 ? 99 : 0, "get", 2, form, i);
                }
            }
        }
        Sentences.promise(35, "BAD; NULL.");
        QuestionRoad x = Checks.road("", "aar000");
        for (int[] wrong : new int[][] {{-1, 0}, {1, 0}, {0, -1}, {0, 4}}) {
            found(x, -2, 0, "write", wrong);
        }
        found(x, -11, 1, "write", 0, 0);
        found(new QuestionRoad(), -2, 0, "write", 0, 0);
    }

    private static void count() {
        Sentences.promise(36, "8 the number of the latest FINDING (0 before any). BAD.");
        QuestionRoad x = new QuestionRoad();
        Face.dueRow(x, Face.row(0, 0, 0, 0, 0, 0, 0, 0, 0, -2), "count");
        for (int wrong : new int[] {-1, 9, LEAST, GREATEST}) {
            due(x, -2, "count", wrong);
        }
        x.sheet(0, 0, 1);
        x.sheet(1, 1, 1);
        found(x, -15, 5, "sheet", 0, 0, -1);
        found(x, -14, 4, "copy", 0, 0, 1, 0, 1);
        found(x, -13, 3, "lay", 0, 1, 0, 0);
        found(x, -12, 2, "lay", 0, 0, 1, 0);
        found(x, -11, 1, "read", 2);
        found(x, 1, 1, "lay", 0, 0, 0, 0);
        found(x, -2, 1, "lay", 4, 0, 0, 0);
        found(x, -3, 1, "back");
    }

    private static void counted() {
        Sentences.promise(36, "0 WAYS, 1 CARTERS, 2, 3 bytes of texts, 4 ANSWERS, 5 who COME,"
            + " 6 how many ARRIVE in all HOURS, 7 SEEN");
        QuestionRoad x = Checks.road(TextEdges.TEN_WAYS, TextEdges.EIGHT_CARTERS);
        for (int n = 0; n < 8; n++) {
            x.answer(39, 7);
            x.seen(39, 7, 8);
        }
        int[] most = {10, 8, 49, 55, 8};
        for (int what = 0; what < most.length; what++) {
            due(x, most[what], "count", what);
        }
        due(x, 8, "count", 7);
        // All eight through all PLACES, an HOUR each.
        x = Checks.road("ab1d;bc1d;cd1d;de1d;ef1d;fg1d;gh1d", TextEdges.eight("ahr990"));
        due(x, 8, "count", 5);
        due(x, 64, "count", 6);
        x = Checks.road(HourEdges.TO_THE_LAST_HOUR, "acr990;acr990");
        x.late(1, 1);
        due(x, 1, "count", 5);
        due(x, 5, "count", 6);
    }

    private static void digest() {
        Sentences.promise(37, "as longs that wrap");
        int[] empty = {0, 0, 0, 0, 0, 0, 0, 0, -1, -1, 0, -1, -1, -1, -1, -1, -1, 0, -1, -1, -1, -1, -1, -1, -1, -1,
            0, 0, 0, 0, -1, -1, -1, -1, -1, -1, -1, -1, 0, 0, 0};
        BigInteger h = BigInteger.valueOf(17);
        for (int v : empty) {
            h = h.multiply(BigInteger.valueOf(31)).add(BigInteger.valueOf(v));
        }
        Checks.due("digest of a new object", new QuestionRoad().digest(), h.longValue());
        // All that is no part of it: SHEETS, FINDINGS, the LATE of one that there is not.
        QuestionRoad x = new QuestionRoad();
        x.sheet(0, 0, 1);
        x.lose(1);
        x.late(7, 9);
        Checks.due("digest with SHEETS", x.digest(), h.longValue());
    }

    private static void theLastCall() {
        Sentences.term("An object is used for at most 512 calls after it has been made");
        QuestionRoad x = new QuestionRoad();
        for (int round = 0; round < 127; round++) {
            due(x, 1, "type", 0, 'a');
            due(x, 0, "undo", 0);
            due(x, 1, "answer", 0, 0);
            due(x, 0, "back");
        }
        due(x, 60, "sheet", 0, 0, 60);
        due(x, 8, "read", 0);
        due(x, -4, "answer", 0, 0);
        due(x, 8, "count", 4);
    }
}
