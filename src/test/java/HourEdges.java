/** Edges of promises 9 to 17, sentence by sentence: ANSWERS, and what is so in which HOUR. */
final class HourEdges {
    /** From a to c in 39 HOURS, by b in HOUR 27. */
    static final String TO_THE_LAST_HOUR = "ab9u;bc6f";

    private HourEdges() {
    }

    static void all() {
        answers();
        backs();
        readsWholeOnes();
        readsAsLongAsEachMayBe();
        readsBehindOthers();
        lengthsOfWays();
        waysBetweenTwoPlaces();
        far();
        turns();
        strengths();
        away();
        present();
        whatComesFirst();
        questions();
        rowsOfHours();
        theLastHour();
        ends();
        who();
        met();
        busiest();
    }

    private static void due(QuestionRoad x, long want, String name, int... args) {
        Face.due(x, want, name, args);
    }

    private static void answers() {
        Sentences.promise(9, "An ANSWER more: how many.");
        int[][] edges = {{0, 0}, {0, 7}, {39, 0}, {39, 7}, {39, 7}, {0, 0}, {1, 1}, {38, 6}};
        QuestionRoad x = new QuestionRoad();
        for (int n = 0; n < 8; n++) {
            due(x, n + 1, "answer", edges[n][0], edges[n][1]);
            due(x, n + 1, "count", 4);
        }
        for (int[] wrong : new int[][] {{-1, 0}, {40, 0}, {0, -1}, {0, 8}}) {
            due(x, -2, "answer", wrong[0], wrong[1]);
            due(new QuestionRoad(), -2, "answer", wrong[0], wrong[1]);
        }
        Sentences.term("ANSWERS, 8 at most (0 on): in an HOUR at a PLACE.");
        due(x, -4, "answer", 0, 0);
        due(x, 8, "count", 4);
        due(x, 7, "back");
        due(x, 8, "answer", 0, 0);
        due(x, -4, "answer", 0, 0);
    }

    private static void backs() {
        Sentences.promise(10, "The last ANSWER is undone: how many are left.");
        QuestionRoad x = Checks.road("ab1d", "abo990");
        due(x, 1, "answer", 0, 0);
        due(x, 2, "answer", 39, 7);
        due(x, 1, "back");
        due(x, 1, "who", 3);
        due(x, 2, "answer", 0, 0);
        due(x, 1, "back");
        due(x, 1, "who", 3);
        due(x, 0, "back");
        due(x, 1, "who", 2);
        Sentences.promise(10, "NOT: there is none.");
        due(x, -3, "back");
        due(x, 0, "count", 4);
        due(x, 1, "answer", 0, 0);
        due(x, 0, "back");
        due(x, -3, "back");
        due(new QuestionRoad(), -3, "back");
    }

    /** A row laid in SHEET 0, which is read. */
    private static void read(int form, int want, int... items) {
        QuestionRoad x = new QuestionRoad();
        x.sheet(0, form, items.length);
        for (int i = 0; i < items.length; i++) {
            x.lay(0, form, i, items[i]);
        }
        due(x, want, "read", 0);
        due(x, want, "count", 4);
        due(x, 0, "count", 8);
    }

    private static void readsWholeOnes() {
        Sentences.promise(11, "ANSWERS from a SHEET: its items, two for each, as many as are whole");
        for (int form = 0; form < 3; form++) {
            read(form, 0);
            read(form, 0, 0);
            read(form, 1, 0, 0);
            read(form, 1, 39, 7, 39);
            read(form, 2, 39, 7, 0, 0);
            for (int n = 14; n <= 18; n++) {
                read(form, Math.min(n / 2, 8), new int[n]);
            }
            read(form, 8, new int[59]);
            read(form, 8, new int[60]);
        }
        QuestionRoad x = Checks.road("gh1d", "gho990");
        x.sheet(3, 0, 4);
        x.lay(3, 0, 3, 6);
        due(x, 2, "read", 3);
        due(x, 1, "who", 3);
    }

    private static void readsAsLongAsEachMayBe() {
        Sentences.promise(11, "as long as each may be: how many.");
        for (int form = 0; form < 3; form++) {
            read(form, 0, -1, 0, 0, 0);
            read(form, 0, 40, 0, 0, 0);
            read(form, 0, 0, -1, 0, 0);
            read(form, 0, 0, 8, 0, 0);
            read(form, 1, 0, 0, -1, 0, 0, 0);
            read(form, 1, 0, 0, 40, 7, 0, 0);
            read(form, 1, 39, 7, 39, 8, 0, 0);
            read(form, 7, 0, 0, 0, 0, 0, 0, 0, 0, 0, 0, 0, 0, 0, 0, 0, -1);
        }
        read(1, 0, 256, 0);
        read(2, 0, 65536, 0);
        read(2, 0, 0, Integer.MIN_VALUE);
        read(2, 0, Integer.MAX_VALUE, 0);
        Sentences.promise(11, "BAD; NULL.");
        QuestionRoad x = new QuestionRoad();
        due(x, -2, "read", -1);
        due(x, -2, "read", 4);
        due(x, 0, "count", 8);
        due(x, -11, "read", 0);
        due(x, -11, "read", 3);
        due(x, 1, "count", 8);
    }

    private static void readsBehindOthers() {
        Sentences.promise(11, "ANSWERS from a SHEET");
        for (int ahead = 0; ahead <= 8; ahead++) {
            QuestionRoad x = Checks.road("ab1d", "abo990");
            x.sheet(1, 2, 4);
            for (int n = 0; n < ahead; n++) {
                x.answer(39, 7);
            }
            due(x, Math.min(2, 8 - ahead), "read", 1);
            due(x, Math.min(ahead + 2, 8), "count", 4);
            due(x, ahead == 8 ? 0 : 1, "who", 3);
            due(x, ahead < 6 ? ahead + 3 : -4, "answer", 0, 0);
        }
    }

    private static void lengthsOfWays() {
        Sentences.term("times 3 up, 2 flat, 1 down (the other way round up is down)");
        for (int length = 1; length <= 9; length++) {
            for (int slope = 0; slope < 3; slope++) {
                QuestionRoad x = Checks.road("ah" + length + "ufd".charAt(slope), "");
                due(x, length * (3 - slope), "far", 0, 7);
                due(x, length * (1 + slope), "far", 7, 0);
            }
        }
    }

    private static void waysBetweenTwoPlaces() {
        Sentences.term("of WAYS between two PLACES that which takes least counts");
        for (String ways : new String[] {"ab3u;ab2f;ab8d", "ab2f;ab8d;ab3u", "ba3d;ba2f;ba8u", "ba8u;ab3u;ba2f"}) {
            QuestionRoad x = Checks.road(ways, "abr040;abr030;bar030;bar020");
            due(x, 4, "far", 0, 1);
            due(x, 3, "far", 1, 0);
            due(x, 5, "who", 2);
            due(x, 10, "who", 4);
            due(x, 4, "ends", 0);
            due(x, 3, "ends", 2);
        }
    }

    private static void far() {
        Sentences.promise(14, "FAR; NONE.");
        QuestionRoad x = new QuestionRoad();
        for (int p = 0; p < 8; p++) {
            due(x, 0, "far", p, p);
            due(x, -1, "far", p, (p + 1) % 8);
        }
        due(x, -2, "far", -1, 0);
        due(x, -2, "far", 0, -1);
        due(x, -2, "far", 8, 0);
        due(x, -2, "far", 0, 8);
        Sentences.term("FAR from PLACE to PLACE; NONE: there are no WAYS.");
        x = Checks.road("ab1u;cd1u", "");
        due(x, -1, "far", 0, 2);
        due(x, -1, "far", 3, 1);
        due(x, -1, "far", 0, 7);
        due(x, -1, "far", 7, 0);
        Sentences.term("FAR is how many HOURS it is at least from PLACE to PLACE by WAYS.");
        x = Checks.road("ab9u;ac1d;cb1d;ba9u", "");
        due(x, 2, "far", 0, 1);
        due(x, 6, "far", 1, 0);
        // The longest road that there can be, beyond all HOURS.
        x = Checks.road("ab9u;bc9u;cd9u;de9u;ef9u;fg9u;gh9u", "");
        due(x, 189, "far", 0, 7);
        due(x, 63, "far", 7, 0);
        x = Checks.road("ae9u;eb9u;bf9u;fc9u;cg9u;gd9u;dh9u", "");
        due(x, 189, "far", 0, 7);
        due(x, 63, "far", 7, 0);
    }

    private static void turns() {
        Sentences.term("the least PLACE next to it by which it is no farther to the GOAL than FAR tells");
        due(Checks.road("ah1d;hg1d;ab1d;bg1d", "agr990"), 1, "at", 0, 0, 3);
        due(Checks.road("ab1d;bg2d;ah1d;hg1d", "agr990"), 7, "at", 0, 0, 3);
        due(Checks.road("ag2d;ab1d;bg1d", "agr990"), 1, "at", 0, 0, 3);
        due(Checks.road("ab2d;ah1d;hb1d", "abr990"), 1, "at", 0, 0, 3);
        due(Checks.road("ab3d;ah1d;hb1d", "abr990"), 7, "at", 0, 0, 3);
        due(Checks.road("ha1d;ab1d", "hbr990"), 0, "at", 0, 0, 3);
        // It goes by b, the least, though straight to h it would take one LOAD less.
        QuestionRoad x = Checks.road("ab1d;bh1d;ah2d", "ahr119");
        due(x, 1, "at", 0, 0, 3);
        due(x, 1, "who", 4);
        due(x, 1, "at", 39, 0, 1);
    }

    private static void strengths() {
        Sentences.term("for that it takes so much STRENGTH, as it takes HOURS, and the LOAD besides.");
        for (int load = 0; load <= 9; load++) {
            for (int strength = 0; strength <= 13; strength++) {
                QuestionRoad x = Checks.road("ab1u", String.format("abr%02d%d", strength, load));
                boolean comes = strength >= 3 + load;
                due(x, comes ? 1 : 4, "at", 0, 0, 0);
                due(x, comes ? strength - 3 - load : strength, "at", 39, 0, 2);
                due(x, comes ? 3 : 0, "ends", 0);
            }
        }
        Sentences.term("else, if its STRENGTH is less than it takes, it is TIRED");
        QuestionRoad x = Checks.road("ab1d;bc1d", "acr000;acr010;acr020;acr041;acr031;acr990");
        due(x, 19, "who", 4);
        due(x, 44, "who", 2);
        due(x, 0, "at", 39, 0, 1);
        due(x, 1, "at", 39, 1, 1);
        due(x, 0, "at", 39, 1, 2);
        due(x, 0, "at", 39, 3, 2);
        due(x, 1, "at", 39, 4, 1);
        due(x, 97, "at", 39, 5, 2);
    }

    private static void away() {
        Sentences.term("A CARTER is AWAY ahead of HOUR LATE; in that it ARRIVES where it begins.");
        for (int late = 0; late <= 9; late++) {
            QuestionRoad x = Checks.road("", "hao990");
            x.late(0, late);
            for (int hour = 0; hour < 40; hour++) {
                due(x, hour < late ? 0 : 5, "at", hour, 0, 0);
                due(x, hour < late ? -1 : 7, "at", hour, 0, 1);
            }
            due(x, late, "ends", 0);
            due(x, 1, "count", 6);
        }
    }

    private static QuestionRoad lateBy(String ways, String carters, int... lates) {
        QuestionRoad x = Checks.road(ways, carters);
        for (int c = 0; c < lates.length; c++) {
            x.late(c, lates[c]);
        }
        return x;
    }

    private static void present() {
        Sentences.term("all that ARRIVE in it at a PLACE");
        due(Checks.road("ab1d", "abc990;abc990"), 3, "who", 3);
        due(Checks.road("ab1d", "abr990;abc990"), 2, "who", 3);
        // At b in HOUR 2, the one from a, the other one from c, which goes on in that HOUR.
        due(lateBy("ab1d;cb2d;bd1d", "adc990;cdr990", 1), 1, "who", 3);
        due(lateBy("ab1d;cb2d;bd1d", "adc990;cdr990", 0), 3, "who", 2);
        due(lateBy("ab1d;cb2d;bd1d", "adc990;cdr990", 2), 3, "who", 2);
        Sentences.term("or are there from an earlier HOUR on, are PRESENT");
        due(lateBy("ab1d;bc1d", "acc990;bbr000", 9), 1, "who", 3);
        due(lateBy("ab1d;bc1d", "acc990;bco000", 9), 1, "who", 3);
        due(lateBy("ab1d;bc1d", "acc990;bhr000", 9), 1, "who", 3);
        due(lateBy("ab1d;bc1d", "acc990;abr990", 9), 1, "who", 3);
        // One that is told is PRESENT later on, one that has set out or is AWAY is not.
        due(lateBy("ab1d;bc1d", "acc990;acc990;aar000", 2, 1, 0), 3, "who", 3);
        due(lateBy("ab1d;bc1d", "acc990;acr990", 1, 0), 3, "who", 2);
        due(lateBy("ab1d;bc1d", "acc990;acr990", 0, 1), 3, "who", 2);
        Sentences.term("Then of each that ARRIVES in it, by what is so then");
        due(Checks.road("ab1d", "abc990;abc990;abc990"), 7, "who", 3);
        due(Checks.road("ab1d", "aar000;abc990"), 2, "who", 3);
    }

    private static void whatComesFirst() {
        Sentences.term("at its GOAL it has COME");
        QuestionRoad x = Checks.road("ab1d", "aao000;aac000;aar000");
        x.answer(0, 0);
        due(x, 7, "who", 2);
        due(Checks.road("", "hhc000"), 1, "who", 2);
        Sentences.term("else, if its question is answered, it is TOLD");
        x = Checks.road("ab1d", "aho000;abo000;abo990");
        x.answer(0, 0);
        due(x, 7, "who", 3);
        Sentences.term("else, if there are no WAYS to the GOAL, it is LOST");
        x = Checks.road("ab1d", "aho000;hao990;cdr009");
        due(x, 7, "who", 5);
        due(x, 7, "at", 39, 1, 1);
        Sentences.term("all these stay there");
        x = Checks.road("ab1d", "bbo000;abo990;abo000;aho990");
        x.late(1, 1);
        x.answer(1, 0);
        for (int hour : new int[] {1, 39}) {
            Face.dueRow(x, Face.row(2, 1, 0, -1), "at", hour, 0);
            Face.dueRow(x, Face.row(3, 0, 99, -1), "at", hour, 1);
            Face.dueRow(x, Face.row(4, 0, 0, -1), "at", hour, 2);
            Face.dueRow(x, Face.row(5, 0, 99, -1), "at", hour, 3);
        }
    }

    private static void questions() {
        String three = "ghr990;gho990";
        Sentences.term("An open question is answered by an ANSWER at that PLACE in that HOUR");
        answered("fgo990", 0, 5, 1);
        answered("fho990", 1, 6, 1);
        answered("fho990", 0, 6, 0);
        answered("fho990", 2, 6, 0);
        answered("fho990", 1, 5, 0);
        answered("fho990", 1, 7, 0);
        due(Checks.road("gh1d", three), 0, "who", 3);
        Sentences.term("a common one so, too, or if another CARTER is PRESENT");
        answered("fgc990", 0, 5, 1);
        answered("fhc990", 1, 6, 1);
        answered("fhc990", 2, 6, 0);
        due(Checks.road("gh1d", three + ";ghc990"), 4, "who", 3);
        Sentences.term("a riddle never");
        answered("fgr990", 0, 5, 0);
        answered("fhr990", 1, 6, 0);
        due(Checks.road("gh1d", "ghr990;ghr990"), 3, "who", 2);
    }

    private static void answered(String carter, int hour, int place, int want) {
        QuestionRoad x = Checks.road("fg1d;gh1d", carter);
        x.answer(hour, place);
        Checks.due("told, " + carter + " by " + hour + ", " + place, x.who(3), want);
        Checks.due("come, " + carter + " by " + hour + ", " + place, x.who(2), 1 - want);
    }

    private static void rowsOfHours() {
        Sentences.promise(12, "What it is (what = 0), the PLACE (1; NONE), STRENGTH (2), whither (3; NONE).");
        QuestionRoad x = Checks.road("ab1u;bc1f", "aco201");
        x.late(0, 2);
        due(x, -2, "at", 40, 0, 0);
        due(x, -2, "at", -1, 0, 0);
        due(x, -2, "at", 0, 1, 0);
        due(x, -2, "at", 0, -1, 0);
        due(x, -2, "at", 0, 0, -1);
        due(x, -2, "at", 0, 0, 4);
        Sentences.term("the PLACE at which it stays (NONE: AWAY, on its way); its STRENGTH;"
            + " the PLACE to which it is on its way (NONE).");
        Face.dueRow(x, Face.row(0, -1, 20, -1, -2), "at", 0, 0);
        Face.dueRow(x, Face.row(0, -1, 20, -1), "at", 1, 0);
        Face.dueRow(x, Face.row(1, -1, 16, 1), "at", 2, 0);
        Face.dueRow(x, Face.row(1, -1, 16, 1), "at", 4, 0);
        Face.dueRow(x, Face.row(1, -1, 13, 2), "at", 5, 0);
        Face.dueRow(x, Face.row(1, -1, 13, 2), "at", 6, 0);
        Face.dueRow(x, Face.row(2, 2, 13, -1), "at", 7, 0);
        Face.dueRow(x, Face.row(2, 2, 13, -1, -2), "at", 39, 0);
        // As many PLACES as one can come by.
        Sentences.term("Else its STRENGTH is less by that, it sets out, and ARRIVES at the next PLACE so many HOURS later.");
        x = Checks.road("ab1d;bc1d;cd1d;de1d;ef1d;fg1d;gh1d", "ahr991");
        for (int hour = 0; hour < 7; hour++) {
            Face.dueRow(x, Face.row(1, -1, 97 - 2 * hour, hour + 1), "at", hour, 0);
        }
        Face.dueRow(x, Face.row(2, 7, 85, -1), "at", 7, 0);
        due(x, 8, "count", 6);
    }

    private static void theLastHour() {
        Sentences.term("HOURS are 0 to 39.");
        QuestionRoad x = Checks.road(TO_THE_LAST_HOUR, "acr990");
        Face.dueRow(x, Face.row(1, -1, 60, 2), "at", 38, 0);
        Face.dueRow(x, Face.row(2, 2, 60, -1), "at", 39, 0);
        due(x, 3, "count", 6);
        due(x, 1, "count", 5);
        x.late(0, 1);
        Face.dueRow(x, Face.row(1, -1, 60, 2), "at", 39, 0);
        due(x, 2, "count", 6);
        due(x, 0, "count", 5);
        // In each HOUR that there is one ARRIVES.
        x = lateBy("ab5d;bc5d;cd5d;de5d;ef5d;fg5d;gh5d", "ahr990;ahr990;ahr990;ahr990;ahr990;ahr990", 0, 1, 2, 3, 4, 5);
        due(x, 47, "count", 6);
        due(x, 31, "who", 2);
        for (int c = 0; c < 5; c++) {
            due(x, 35 + c, "ends", c);
        }
        due(x, -1, "ends", 5);
    }

    private static void ends() {
        Sentences.promise(13, "ENDS; NONE.");
        due(Checks.road("", "aar000"), 0, "ends", 0);
        due(Checks.road(TO_THE_LAST_HOUR, "acr990"), 39, "ends", 0);
        due(lateBy(TO_THE_LAST_HOUR, "acr990", 1), -1, "ends", 0);
        due(Checks.road("ab9u;bc9u", "acr990"), -1, "ends", 0);
        due(new QuestionRoad(), -2, "ends", 0);
        due(Checks.road("", "aar000"), -2, "ends", 1);
        due(Checks.road("", "aar000"), -2, "ends", -1);
        Sentences.term("the HOUR in which it COMES, is TOLD, TIRED, LOST; NONE.");
        QuestionRoad x = lateBy("ab1d;bc1d", "abo990;aco990;aco010;aho990", 9, 8, 7, 6);
        x.answer(9, 1);
        int[] hours = {10, 9, 8, 6};
        for (int c = 0; c < 4; c++) {
            due(x, hours[c], "ends", c);
            due(x, 1 << c, "who", 2 + c);
        }
    }

    private static void who() {
        Sentences.promise(15, "Who is so (2 to 5) at last, as bits.");
        String[] carters = {"aar000", "abo990", "abr000", "ahr000"};
        for (int is = 2; is <= 5; is++) {
            QuestionRoad x = Checks.road("ab1d", TextEdges.eight(carters[is - 2]));
            x.answer(0, 0);
            for (int other = 2; other <= 5; other++) {
                due(x, other == is ? 255 : 0, "who", other);
            }
            due(x, -2, "who", 1);
            due(x, -2, "who", 6);
            due(x, -2, "who", 0);
            due(x, -2, "who", -1);
        }
        for (int is = 2; is <= 5; is++) {
            due(new QuestionRoad(), 0, "who", is);
            due(lateBy(TO_THE_LAST_HOUR, "acr990", 1), 0, "who", is);
        }
        due(Checks.road(TO_THE_LAST_HOUR, "acr990"), 1, "who", 2);
    }

    private static void met(QuestionRoad x, int hour, int place) {
        Face.dueRow(x, Face.row(hour, place, -2), "met");
    }

    private static void met() {
        Sentences.promise(16, "MEETS: the HOUR (what = 0), the PLACE (1); NONE.");
        due(new QuestionRoad(), -2, "met", -1);
        met(new QuestionRoad(), -1, -1);
        met(Checks.road("", "aar000"), -1, -1);
        met(Checks.road("", "aar000;bbr000"), -1, -1);
        met(Checks.road("ab1d", "abr990;bar990"), -1, -1);
        Sentences.term("the first HOUR in which two or more are PRESENT at one PLACE; the least such PLACE; NONE.");
        met(Checks.road("", "aar000;aar000"), 0, 0);
        met(Checks.road("", "hhr000;ggr000;hhr000;ggr000"), 0, 6);
        met(lateBy("", "aar000;hhr000;hhr000;aar000", 0, 0, 8, 9), 8, 7);
        met(lateBy("", "aar000;hhr000;hhr000;aar000", 9, 9, 9, 9), 9, 0);
        met(Checks.road("", "hhr000;hhr000;hhr000"), 0, 7);
        met(Checks.road(TO_THE_LAST_HOUR, "acr990;ccr000"), 39, 2);
        met(lateBy(TO_THE_LAST_HOUR, "acr990;ccr000", 1), -1, -1);
        met(lateBy("ab1d;bc1d", "acr990;bcr990", 0, 1), 1, 1);
        met(lateBy("ab1d;bc1d", "acr990;bcr990", 0, 0), 2, 2);
    }

    private static void busiest() {
        Sentences.promise(17, "BUSIEST; NONE.");
        due(new QuestionRoad(), -1, "busiest");
        due(Checks.road("", "hhr000"), 7, "busiest");
        Sentences.term("the PLACE at which one ARRIVES most often in all HOURS, of like ones the least; NONE: nobody does.");
        due(Checks.road("", "hhr000;ggr000"), 6, "busiest");
        due(Checks.road("", "hhr000;ggr000;hhr000"), 7, "busiest");
        due(Checks.road("gh1d", "ghr990;ggr000"), 6, "busiest");
        due(Checks.road(TO_THE_LAST_HOUR, "acr990;ccr000"), 2, "busiest");
        due(lateBy(TO_THE_LAST_HOUR, "acr990;ccr000", 1), 0, "busiest");
        // One that stays for long has ARRIVED once.
        due(lateBy("ab1d", "hhr000;bar000;bar000", 0, 9, 9), 1, "busiest");
    }
}
