import java.util.function.Supplier;

/** Refusals of all promises: which comes first, and that none of them changes a thing. */
final class RefusalEdges {
    private static final int LEAST = Integer.MIN_VALUE;

    private RefusalEdges() {
    }

    static void all() {
        not();
        full();
        losts();
        casts();
        indices();
        storesAndSizes();
        badComesFirst();
        nullComesNext();
        whatIsAskedChangesNothing();
    }

    private static void not() {
        Sentences.term("They change nothing (FINDINGS but count() 8).");
        Twins.refused(Twins::empty, -3, 0, "undo", 0);
        Twins.refused(Twins::empty, -3, 0, "undo", 1);
        Twins.refused(Twins::empty, -3, 0, "back");
    }

    private static void full() {
        for (int b : new int[] {0, ';', 'a', 255}) {
            Twins.refused(Twins::full, -4, 0, "type", 0, b);
            Twins.refused(Twins::full, -4, 0, "type", 1, b);
        }
        Twins.refused(Twins::full, -4, 0, "answer", 0, 0);
        Twins.refused(Twins::full, -4, 0, "answer", 39, 7);
        Twins.refused(Twins::full, -4, 0, "seen", 0, 0, 0);
        Twins.refused(Twins::full, -4, 0, "seen", 39, 7, 8);
    }

    private static void losts() {
        Sentences.term("answers -10 less the number; they change nothing but count() 8");
        for (Supplier<QuestionRoad> made : Twins.ALL) {
            Twins.refused(made, -11, 1, "read", 3);
            Twins.refused(made, -11, 1, "lose", 3);
            Twins.refused(made, -11, 1, "lay", 3, 0, 0, 0);
            Twins.refused(made, LEAST, 1, "get", 3, 0, 0);
            Twins.refused(made, -11, 1, "copy", 3, 0, 3, 0, 0);
            Twins.refused(made, -11, 1, "copy", 0, 0, 3, 0, 1);
            Twins.refused(made, -11, 1, "copy", 3, 0, 0, 0, 1);
        }
        Twins.refused(Twins::full, -11, 1, "write", 0, 3);
        Twins.refused(Twins::one, -11, 1, "write", 0, 3);
    }

    private static void casts() {
        for (int s = 0; s < 3; s++) {
            for (int form = 0; form < 3; form++) {
                if (form != s) {
                    Twins.refused(Twins::full, -13, 3, "lay", s, form, 0, 55);
                    Twins.refused(Twins::full, LEAST, 3, "get", s, form, 0);
                }
            }
        }
    }

    private static void indices() {
        for (int s = 0; s < 3; s++) {
            for (int i : new int[] {-1, 3 + s, LEAST, Integer.MAX_VALUE}) {
                Twins.refused(Twins::full, -12, 2, "lay", s, s, i, 55);
                Twins.refused(Twins::full, LEAST, 2, "get", s, s, i);
                Twins.refused(Twins::full, -12, 2, "copy", s, i, s, 0, 1);
                Twins.refused(Twins::full, -12, 2, "copy", s, 0, s, i, 1);
            }
            Twins.refused(Twins::full, -12, 2, "copy", s, 0, s, 1, 3 + s);
            Twins.refused(Twins::full, -12, 2, "copy", s, 0, s, 1, -1);
        }
    }

    private static void storesAndSizes() {
        Twins.refused(Twins::full, -14, 4, "copy", 0, 0, 1, 0, 1);
        Twins.refused(Twins::full, -14, 4, "copy", 2, 0, 1, 0, 0);
        for (int s = 0; s < 4; s++) {
            for (int n : new int[] {-1, LEAST}) {
                Twins.refused(Twins::full, -15, 5, "sheet", s, 0, n);
                Twins.refused(Twins::one, -15, 5, "sheet", s, 2, n);
            }
        }
    }

    private static void badComesFirst() {
        Sentences.term("Refusals, the first that fits, in the order told at each act:"
            + " BAD -2 (a number not as told, no such thing), NULL");
        Twins.refused(Twins::full, -2, 0, "type", 0, 256);
        Twins.refused(Twins::full, -2, 0, "type", 1, -1);
        Twins.refused(Twins::empty, -2, 0, "undo", 2);
        Twins.refused(Twins::full, -2, 0, "answer", 40, 0);
        Twins.refused(Twins::full, -2, 0, "answer", 0, 8);
        Twins.refused(Twins::full, -2, 0, "seen", 40, 0, 0);
        Twins.refused(Twins::full, -2, 0, "seen", 0, 8, 0);
        Twins.refused(Twins::full, -2, 0, "seen", 0, 0, 9);
        Twins.refused(Twins::full, -2, 0, "sheet", 4, 0, -1);
        Twins.refused(Twins::full, -2, 0, "sheet", 0, 3, -1);
        Twins.refused(Twins::full, -2, 0, "lay", 3, 3, 99, 0);
        Twins.refused(Twins::full, LEAST, 0, "get", 3, 3, 99);
        Twins.refused(Twins::full, -2, 0, "copy", 3, 99, 4, 99, 99);
        Twins.refused(Twins::full, -2, 0, "copy", 4, 99, 3, 99, 99);
        Twins.refused(Twins::full, -2, 0, "write", 8, 3);
        Twins.refused(Twins::one, -2, 0, "write", 1, 3);
        Twins.refused(Twins::faulty, -2, 0, "write", 0, 3);
    }

    private static void nullComesNext() {
        Sentences.term("NULL, NOT -3 (as told), FULL -4, other FINDINGS");
        Twins.refused(Twins::full, -11, 1, "read", 3);
        Twins.refused(Twins::full, -11, 1, "lay", 3, 0, 99, 0);
        Twins.refused(Twins::full, LEAST, 1, "get", 3, 0, 99);
        Twins.refused(Twins::full, -11, 1, "copy", 3, 99, 0, 99, 99);
        Twins.refused(Twins::full, -11, 1, "copy", 0, 99, 3, 99, 99);
        Twins.refused(Twins::full, -13, 3, "lay", 0, 1, 99, 0);
        Twins.refused(Twins::full, LEAST, 3, "get", 0, 1, 99);
        Twins.refused(Twins::full, -14, 4, "copy", 0, 99, 1, 99, 99);
    }

    private static void whatIsAskedChangesNothing() {
        Checks.heading("what is only asked");
        String[] asked = {"fault 1", "way 0 3", "carter 0 3", "at 39 0 1", "ends 0", "far 0 3", "who 2", "met 0", "busiest",
            "needs 0", "lend 2", "delay 0 1", "level 1", "never", "sort 0", "force 0 2", "ask 0", "rumour 5 0 1",
            "market 7 1", "get 0 0 0", "count 8", "digest"};
        for (Supplier<QuestionRoad> made : Twins.ALL) {
            QuestionRoad x = made.get();
            for (String call : asked) {
                String[] words = call.split(" ");
                int[] args = new int[words.length - 1];
                for (int i = 0; i < args.length; i++) {
                    args[i] = Integer.parseInt(words[i + 1]);
                }
                Face.call(x, words[0], args);
            }
            Twins.alike("all calls that only ask", x, made.get());
        }
    }
}
