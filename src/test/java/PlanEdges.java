/** Edges of promises 18 to 21, sentence by sentence: NEEDS, LEND, WAIT, LEVEL. */
final class PlanEdges {
    /** From a to h by all PLACES in 36 HOURS: with a LOAD of 9 it takes 99. */
    static final String THROUGH_ALL = "ab3f;bc3f;cd3f;de3f;ef2f;fg2f;gh2f";

    private PlanEdges() {
    }

    static void all() {
        needs();
        needsInPlaceOfItsOwn();
        lendOfLessThanTwo();
        lendMost();
        lendWhat();
        delayWhich();
        delayOfLikeOnes();
        levelOfNone();
        levelWhich();
        plansChangeNothing();
    }

    private static void due(QuestionRoad x, long want, String name, int... args) {
        Face.due(x, want, name, args);
    }

    private static void needs() {
        Sentences.promise(18, "NEEDS; NONE.");
        due(Checks.road("", "aar999"), 0, "needs", 0);
        due(Checks.road("ab1d", "abr000"), 1, "needs", 0);
        due(Checks.road(THROUGH_ALL, "ahr009"), 99, "needs", 0);
        due(Checks.road("ab3f;bc3f;cd3f;de3f;ef2f;fg2f;gh5d", "ahr999"), -1, "needs", 0);
        due(Checks.road("", "ahr990"), -1, "needs", 0);
        due(Checks.road(HourEdges.TO_THE_LAST_HOUR, "acr000"), 39, "needs", 0);
        QuestionRoad x = Checks.road(HourEdges.TO_THE_LAST_HOUR, "acr990;aar000");
        x.late(0, 1);
        due(x, -1, "needs", 0);
        due(x, -2, "needs", -1);
        due(x, -2, "needs", 2);
        due(new QuestionRoad(), -2, "needs", 0);
    }

    private static void needsInPlaceOfItsOwn() {
        Sentences.term("the least STRENGTH (0 to 99), in place of its own, by which it COMES; NONE.");
        for (String strength : new String[] {"00", "04", "05", "06", "99"}) {
            QuestionRoad x = Checks.road("ab1u;bc1d", "acr" + strength + "0;aco" + strength + "2");
            due(x, 4, "needs", 0);
            due(x, 8, "needs", 1);
            x.answer(3, 1);
            due(x, 4, "needs", 0);
            due(x, -1, "needs", 1);
        }
    }

    private static void lend(QuestionRoad x, int first, int other, int many) {
        Face.dueRow(x, Face.row(first, other, many, -2), "lend");
        due(x, -2, "lend", -1);
    }

    private static void lendOfLessThanTwo() {
        Sentences.promise(19, "LEND: the first (what = 0), the other one (1), how many (2); NONE.");
        lend(new QuestionRoad(), -1, -1, -1);
        lend(Checks.road("ab1d", "abr990"), -1, -1, -1);
        lend(Checks.road("ab1d", "abr990;abr990"), 0, 1, 2);
        Sentences.term("NONE: there are less than two.");
        QuestionRoad x = Checks.road("", "aar000;aar000");
        lend(x, 0, 1, 2);
        for (int n = 0; n < 7; n++) {
            x.undo(1);
        }
        due(x, 1, "count", 1);
        lend(x, -1, -1, -1);
    }

    private static void lendMost() {
        Sentences.term("the two CARTERS (the first less) that had better have each other's question (its sort and STRENGTH),"
            + " so that most COME, of like ones the least row");
        String six = "aar000;aar000;aar000;aar000;aar000;aar000;";
        lend(Checks.road("ab1d", six + "abr990;abr019"), 6, 7, 8);
        lend(Checks.road("ab1d", six + "aar000;aar000"), 0, 1, 8);
        lend(Checks.road("ab1d", "abr000;abr010;aar000;aar990"), 0, 3, 4);
        lend(Checks.road("ab1d", "aar000;abr000;aar990;aar990"), 1, 2, 4);
        lend(Checks.road("ab1d", "aar990;abr000;aar000;aar990"), 0, 1, 4);
        // It is told also where it makes things worse, and where nobody comes.
        lend(Checks.road("ab1d", "abr010;abr109"), 0, 1, 1);
        lend(Checks.road("", "abr990;abr990"), 0, 1, 0);
    }

    private static void lendWhat() {
        Sentences.term("each other's question (its sort and STRENGTH)");
        QuestionRoad x = Checks.road("ab1d", "abo990;bbr990");
        x.answer(0, 0);
        due(x, 2, "who", 2);
        lend(x, 0, 1, 2);
        x = Checks.road("ab1d", "bbo990;abr990");
        x.answer(0, 0);
        due(x, 3, "who", 2);
        lend(x, 0, 1, 1);
        // The LOAD stays with it: with 9 it takes 10, with 2 it takes 3.
        lend(Checks.road("ab1d", "abr039;abr102"), 0, 1, 2);
        // LATE stays with it: the first is told by the other one's open question, too.
        x = Checks.road("ab1d", "abr990;abo990");
        x.late(0, 5);
        x.answer(5, 0);
        due(x, 3, "who", 2);
        lend(x, 0, 1, 1);
    }

    private static void delay(QuestionRoad x, int carter, int which, int many) {
        Face.dueRow(x, Face.row(which, many, -2), "delay", carter);
    }

    private static void delayWhich() {
        Sentences.promise(20, "WAIT: which (what = 0), how many (1).");
        QuestionRoad x = Checks.road("ab1d", "abc990;abr990");
        x.late(1, 8);
        delay(x, 0, 0, 2);
        for (int hour = 0; hour < 8; hour++) {
            x.answer(hour, 0);
            delay(x, 0, hour == 7 ? 9 : hour + 1, 2);
        }
        x.late(1, 9);
        delay(x, 0, 8, 2);
        due(x, -2, "delay", -1, 0);
        due(x, -2, "delay", 2, 0);
        due(x, -2, "delay", 0, -1);
        due(new QuestionRoad(), -2, "delay", 0, 0);
    }

    private static void delayOfLikeOnes() {
        Sentences.term("its LATE (0 to 9), in place of its own, by which most COME, of like ones the least");
        for (int own = 0; own <= 9; own++) {
            QuestionRoad x = Checks.road("ab1d", "abr990;abc990");
            x.late(0, own);
            delay(x, 0, 1, 2);
            due(x, own, "late", 0, 0);
            x.late(1, own);
            delay(x, 0, own == 0 ? 1 : 0, 2);
            due(x, own, "late", 1, 0);
        }
        delay(Checks.road("", "ahr990"), 0, 0, 0);
        // By a LATE of 10 it would come, by those that may be it is told.
        QuestionRoad tenHours = Checks.road("ab1d", "abc990;abr990;abr990");
        tenHours.late(1, 8);
        tenHours.late(2, 9);
        for (int hour = 0; hour < 8; hour++) {
            tenHours.answer(hour, 0);
        }
        delay(tenHours, 0, 0, 2);
        // By LATE 0 alone it comes in HOUR 39.
        QuestionRoad x = Checks.road(HourEdges.TO_THE_LAST_HOUR, "acr990");
        x.late(0, 9);
        delay(x, 0, 0, 1);
    }

    private static void level(QuestionRoad x, int which, int many) {
        Face.dueRow(x, Face.row(which, many, -2), "level");
        due(x, -2, "level", -1);
    }

    private static void levelOfNone() {
        Sentences.promise(21, "LEVEL: which (what = 0), how many (1); NONE.");
        level(new QuestionRoad(), -1, -1);
        level(Checks.road("ab1u", ""), 0, 0);
        Sentences.term("which; how many; NONE: there are none.");
        QuestionRoad x = Checks.road("ab1u", "aar000");
        level(x, 0, 1);
        x.undo(0);
        level(x, -1, -1);
        x.wipe(0);
        level(x, -1, -1);
    }

    private static void levelWhich() {
        Sentences.term("the WAY that had better be flat, so that most COME, of like ones the least");
        String nine = "ab1f;ab1f;ab1f;ab1f;ab1f;ab1f;ab1f;ab1f;ab1f;";
        level(Checks.road(nine + "gh9u", "ghr180"), 9, 1);
        level(Checks.road(nine + "gh9u", "ghr170"), 0, 0);
        level(Checks.road(nine + "gh9u", "hgr090"), 0, 1);
        level(Checks.road("gh9u;gh9u", "ghr180"), 0, 1);
        level(Checks.road("fg9u;gh9u", "ghr180;fgr180;ghr180"), 1, 2);
        level(Checks.road("gh9d", "ghr090"), 0, 0);
        level(Checks.road("gh9d;ab1f", "ghr090"), 1, 1);
        // A levelled WAY is another road for all: the other one goes by it then.
        level(Checks.road("ab2u;ac1f;cb2f", "abr041"), 0, 0);
        level(Checks.road("ab2u;ac1f;cb2f", "abr051"), 0, 1);
    }

    private static void plansChangeNothing() {
        Sentences.term("in place of its own");
        QuestionRoad x = Checks.road("ab1u;bc1d", "abr000;acr990;bcc990");
        long before = x.digest();
        x.needs(0);
        x.lend(0);
        x.delay(1, 0);
        x.level(0);
        Checks.due("digest behind plans", x.digest(), before);
        due(x, 0, "carter", 0, 3);
        due(x, 0, "way", 0, 3);
        due(x, 1, "who", 4);
        due(x, 3, "far", 0, 1);
    }
}
