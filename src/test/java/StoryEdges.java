/**
 * The document from its first line: what its first sentence tells, told by calls on one small road.
 *
 * <p>By a 2u b, b 1f c and c 1d d it is 9 HOURS from a to d and 7 back. CARTER 0 is at b in HOUR 6, at c in 8, at d
 * in 9; CARTER 2 (in HOUR 1 at b) meets CARTER 1 at c in HOUR 3, who is told by that.
 */
final class StoryEdges {
    private static final String WAYS = "ab2u;bc1f;cd1d;ad9f", CARTERS = "ado400;dac504;bdr203";

    private StoryEdges() {
    }

    static void all() {
        QuestionRoad x = Checks.road(WAYS, CARTERS);
        texts(x);
        hours(x);
        plans(x);
        clues(x);
        chances(x);
        kindsOfState();
        sheetOfPlaces();
    }

    private static void row(QuestionRoad x, String name, int ahead, long... want) {
        Face.dueRow(x, want, name, ahead);
    }

    private static void texts(QuestionRoad x) {
        Sentences.term("ways as a text, from where to where, how long, up, down or level");
        row(x, "way", 0, 0, 1, 2, 0);
        row(x, "way", 1, 1, 2, 1, 1);
        row(x, "way", 2, 2, 3, 1, 2);
        row(x, "way", 3, 0, 3, 9, 1);
        Sentences.term("carters as a text, from where, whither, with what sort of question, of what strength, with what load");
        row(x, "carter", 0, 0, 3, 0, 40, 0);
        row(x, "carter", 1, 3, 0, 1, 50, 4);
        row(x, "carter", 2, 1, 3, 2, 20, 3);
        Sentences.term("who sets out later");
        Face.due(x, 0, "late", 2, 1);
        Face.due(x, 0, "at", 0, 2, 0);
        Face.due(x, 1, "at", 1, 2, 0);
    }

    private static void hours(QuestionRoad x) {
        Sentences.term("where each is when");
        Face.dueRow(x, Face.row(1, -1, 34, 1), "at", 5, 0);
        Face.dueRow(x, Face.row(3, 2, 43, -1), "at", 3, 1);
        Face.dueRow(x, Face.row(2, 3, 11, -1), "at", 39, 2);
        Sentences.term("how it ends");
        Face.due(x, 9, "ends", 0);
        Face.due(x, 3, "ends", 1);
        Face.due(x, 4, "ends", 2);
        Sentences.term("who comes, who is told");
        Face.due(x, 5, "who", 2);
        Face.due(x, 2, "who", 3);
        Sentences.term("who meets where");
        Face.dueRow(x, Face.row(3, 2), "met");
        Face.due(x, 2, "busiest");
        Sentences.term("how far it is");
        Face.due(x, 9, "far", 0, 3);
        Face.due(x, 7, "far", 3, 0);
    }

    private static void plans(QuestionRoad x) {
        Sentences.term("the strength by which one comes");
        Face.due(x, 9, "needs", 0);
        Face.due(x, -1, "needs", 1);
        Face.due(x, 9, "needs", 2);
        Sentences.term("the two who had better lend each other their questions");
        Face.dueRow(x, Face.row(0, 1, 3), "lend");
        Sentences.term("how long one had better wait");
        // In HOUR 1 it would meet CARTER 0 at b.
        Face.dueRow(x, Face.row(2, 3), "delay", 1);
        Sentences.term("the way that had better be levelled");
        Face.dueRow(x, Face.row(2, 3), "level");
    }

    private static void clues(QuestionRoad x) {
        Sentences.term("answers that are told somewhere");
        Face.due(x, 1, "answer", 6, 1);
        Face.due(x, 2, "answer", 3, 2);
        Face.due(x, 3, "who", 3);
        Face.due(x, 6, "ends", 0);
        Sentences.term("which answer never was, what sort of question one had, of what strength, by where they were");
        Face.due(x, 1, "seen", 39, 0, 3);
        Face.due(x, 1, "never");
        Face.due(x, 4, "sort", 0);
        Face.due(x, 1, "forget");
        Face.due(x, 1, "seen", 39, 0, 0);
        Face.dueRow(x, Face.row(6, 0, 5), "force", 0);
        Sentences.term("the next hour to look");
        Face.due(x, 1, "forget");
        Face.due(x, 6, "ask", 0);
    }

    private static void chances(QuestionRoad x) {
        Sentences.term("rumours by chance, exactly");
        Face.dueRow(x, Face.row(3, 4), "rumour", 4, 0);
        Face.dueRow(x, Face.row(11, 16), "rumour", 5, 0);
        Sentences.term("markets by a seed");
        // The STRENGTHS are 32, 6 and 68.
        Face.dueRow(x, Face.row(1, 1), "market", 7);
        Sentences.term("answers undone");
        Face.due(x, 1, "back");
        Face.due(x, 0, "back");
        Face.due(x, 5, "who", 2);
        Sentences.term("MARKET by a SEED: the STRENGTH of each CARTER is a LOT of 100: how many COME; how many are TIRED.");
        Face.dueRow(x, Face.row(2, 1), "market", 7);
        Face.due(x, 5, "who", 2);
        Sentences.term("each of ANSWERS is by c sixteenths (0 to 16), by itself: the chance that a CARTER COMES: a FRACTION.");
        Face.dueRow(x, Face.row(1, 1), "rumour", 5, 0);
        Face.dueRow(x, Face.row(0, 1), "rumour", 5, 1);
    }

    private static void kindsOfState() {
        Sentences.term("what it is: 0 AWAY, 1 on its way, 2 COME, 3 TOLD, 4 TIRED, 5 LOST");
        QuestionRoad x = Checks.road("ab1d", "bbr990;abr990;aar000;abo990;abr000;ahr990");
        x.late(0, 9);
        x.answer(0, 0);
        for (int c = 0; c < 6; c++) {
            Face.due(x, c, "at", 0, c, 0);
        }
        Sentences.term("Who is so at last (2 COME, 3 TOLD, 4 TIRED, 5 LOST), as bits.");
        Face.due(x, 7, "who", 2);
        for (int is = 3; is <= 5; is++) {
            Face.due(x, 1 << is, "who", is);
        }
    }

    private static void sheetOfPlaces() {
        Sentences.promise(35, "At which PLACES a CARTER stays behind HOURS 0 on (NONE)");
        QuestionRoad x = Checks.road(WAYS, CARTERS);
        for (int form = 0; form < 3; form++) {
            x.sheet(form, form, 60);
            Face.due(x, 40, "write", 0, form);
            for (int hour = 0; hour < 40; hour++) {
                Face.due(x, hour < 9 ? -1 : 3, "get", form, form, hour);
            }
            Face.due(x, 0, "get", form, form, 40);
        }
    }
}
