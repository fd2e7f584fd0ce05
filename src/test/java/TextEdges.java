import java.util.Collections;

/** Edges of promises 1 to 8, sentence by sentence: a new object, the two texts, LATE. */
final class TextEdges {
    static final String TEN_WAYS = "ab1u;bc2f;cd3d;de4u;ef5f;fg6d;gh7u;ha8f;ac9d;bd1u";
    static final String EIGHT_CARTERS = "abo000;bcc111;cdr222;deo333;efc444;fgr555;gho666;hac999";
    private static final String PLACES = "abcdefgh";
    private static final String FIGURES = "0123456789";

    private TextEdges() {
    }

    /** A text of eight CARTERS alike. */
    static String eight(String one) {
        return String.join(";", Collections.nCopies(8, one));
    }

    static void all() {
        newObject();
        bytes();
        fullTexts();
        wiping();
        undoing();
        signsOfWays();
        signsOfCarters();
        theFirstFault();
        textsNotEnded();
        noRoomForMore();
        asIfItWasEmpty();
        ways();
        carters();
        lates();
    }

    private static void due(QuestionRoad x, long want, String name, int... args) {
        Face.due(x, want, name, args);
    }

    private static void newObject() {
        Sentences.promise(1, "No WAYS, no CARTERS, no ANSWERS; all SHEETS are LOST.");
        QuestionRoad x = new QuestionRoad();
        Face.dueRow(x, new long[9], "count");
        due(x, -2, "way", 0, 0);
        due(x, -2, "carter", 0, 0);
        due(x, -3, "back");
        for (int s = 0; s < 4; s++) {
            due(x, -11, "lose", s);
        }
        due(x, 0, "forget");
        Sentences.term("an empty one is well");
        due(new QuestionRoad(), -1, "fault", 0);
        due(new QuestionRoad(), -1, "fault", 1);
    }

    private static void bytes() {
        Sentences.promise(2, "A byte (0 to 255) comes behind a text: how many.");
        for (int text = 0; text < 2; text++) {
            QuestionRoad x = new QuestionRoad();
            due(x, 1, "type", text, 0);
            due(x, 2, "type", text, 255);
            due(x, -2, "type", text, -1);
            due(x, -2, "type", text, 256);
            due(x, -2, "type", text, 256 + 'a');
            due(x, 2, "count", 2 + text);
            due(x, 0, "count", 3 - text);
            due(x, 3, "type", text, 'a');
        }
    }

    private static void fullTexts() {
        fullText(0, 49, "up to 49 bytes (text 0)");
        fullText(1, 55, "up to 55 bytes (text 1)");
    }

    private static void fullText(int text, int most, String words) {
        Sentences.term(words);
        QuestionRoad x = new QuestionRoad();
        for (int n = 1; n <= most; n++) {
            due(x, n, "type", text, 'a');
        }
        Sentences.promise(2, "FULL");
        due(x, -4, "type", text, 'a');
        due(x, -4, "type", text, 0);
        due(x, most, "count", 2 + text);
        due(x, 1, "type", 1 - text, 'a');
        due(x, most - 1, "undo", text);
        due(x, most, "type", text, 255);
        due(x, -4, "type", text, 255);
        due(x, most, "wipe", text);
        due(x, 1, "type", text, 'a');
    }

    private static void wiping() {
        Sentences.promise(3, "A text is empty: how many bytes it had.");
        QuestionRoad x = new QuestionRoad();
        due(x, 0, "wipe", 0);
        due(x, 0, "wipe", 1);
        x.type(0, 'x');
        due(x, 1, "wipe", 0);
        due(x, -1, "fault", 0);
        x = Checks.road(TEN_WAYS, EIGHT_CARTERS);
        due(x, 49, "wipe", 0);
        due(x, 0, "count", 0);
        due(x, 0, "count", 2);
        due(x, -1, "far", 0, 1);
        due(x, 8, "count", 1);
        due(x, 55, "wipe", 1);
        due(x, 0, "count", 1);
        due(x, 0, "count", 3);
        due(x, -2, "ends", 0);
        due(x, 0, "wipe", 1);
    }

    private static void undoing() {
        Sentences.promise(4, "The last byte of a text is undone: how many are left.");
        QuestionRoad x = Checks.road(TEN_WAYS, EIGHT_CARTERS);
        due(x, 48, "undo", 0);
        due(x, 48, "fault", 0);
        due(x, 54, "undo", 1);
        due(x, 54, "fault", 1);
        x = Checks.road("ab1ux", "aao00x");
        due(x, 4, "undo", 0);
        due(x, -1, "fault", 0);
        due(x, 3, "far", 0, 1);
        due(x, 5, "undo", 1);
        due(x, 6, "type", 1, '0');
        due(x, 1, "who", 2);
        Sentences.promise(4, "NOT: it is empty.");
        for (int text = 0; text < 2; text++) {
            x = new QuestionRoad();
            due(x, -3, "undo", text);
            due(x, 0, "count", 2 + text);
            x.type(1 - text, 'a');
            due(x, -3, "undo", text);
            x.type(text, 'a');
            due(x, 0, "undo", text);
            due(x, -3, "undo", text);
        }
    }

    /** Each of all bytes behind a text that can go on; those that may come there are told. */
    private static void everyByte(int text, String ahead, String may, boolean ends) {
        for (int b = 0; b < 256; b++) {
            QuestionRoad x = new QuestionRoad();
            for (int i = 0; i < ahead.length(); i++) {
                x.type(text, ahead.charAt(i));
            }
            x.type(text, b);
            int behind = ends ? -1 : ahead.length() + 1;
            Checks.due("byte " + b + " behind " + ahead, x.fault(text), may.indexOf(b) < 0 ? ahead.length() : behind);
        }
    }

    private static void signsOfWays() {
        // As the first WAY, the second, and the last for which there is room.
        for (int from : new int[] {0, 5, 45}) {
            String ahead = TEN_WAYS.substring(0, from);
            Sentences.term("PLACES are a to h (0 to 7).");
            everyByte(0, ahead, PLACES, false);
            Sentences.term("two PLACES, unlike");
            for (char first : PLACES.toCharArray()) {
                everyByte(0, ahead + first, PLACES.replace(first + "", ""), false);
            }
            Sentences.term("how LONG it is (1 to 9)");
            everyByte(0, ahead + "hg", "123456789", false);
            Sentences.term("and u (up), d (down) or f (flat)");
            everyByte(0, ahead + "ah9", "udf", true);
        }
        Sentences.term("10 at most (0 on), with ; between them");
        everyByte(0, "ab1u", ";", false);
        everyByte(0, TEN_WAYS.substring(0, 44), ";", false);
    }

    private static void signsOfCarters() {
        for (int from : new int[] {0, 7, 49}) {
            String ahead = EIGHT_CARTERS.substring(0, from);
            Sentences.term("two PLACES (perhaps alike)");
            everyByte(1, ahead, PLACES, false);
            everyByte(1, ahead + "a", PLACES, false);
            everyByte(1, ahead + "h", PLACES, false);
            Sentences.term("o (an open question), c (a common one) or r (a riddle)");
            everyByte(1, ahead + "aa", "ocr", false);
            Sentences.term("its STRENGTH (00 to 99)");
            everyByte(1, ahead + "hao", FIGURES, false);
            everyByte(1, ahead + "hao0", FIGURES, false);
            everyByte(1, ahead + "hao9", FIGURES, false);
            Sentences.term("the LOAD (0 to 9)");
            everyByte(1, ahead + "hao99", FIGURES, true);
        }
        Sentences.term("8 at most (0 on), with ; between them");
        everyByte(1, "aao000", ";", false);
        everyByte(1, EIGHT_CARTERS.substring(0, 48), ";", false);
    }

    private static void fault(int text, String signs, int want) {
        QuestionRoad x = new QuestionRoad();
        Checks.put(x, text, signs);
        Checks.due("fault of " + signs, x.fault(text), want);
    }

    private static void theFirstFault() {
        Sentences.promise(5, "The FAULT of a text; NONE.");
        fault(0, TEN_WAYS, -1);
        fault(1, EIGHT_CARTERS, -1);
        Sentences.term("the place of the first byte with which it cannot go on");
        fault(0, "ix", 0);
        fault(0, "aab1u", 1);
        fault(0, "ab0x", 2);
        fault(0, "ab1u;;ab1u", 5);
        fault(0, "ab1u;bb1u;cc", 6);
        fault(0, "ab1uab1u", 4);
        fault(1, "ix", 0);
        fault(1, "aao0;aao000", 4);
        fault(1, "aao000;;aao000", 7);
        fault(1, "aao0000;aax", 6);
        // The last byte that there is room for.
        fault(0, TEN_WAYS.substring(0, 48) + "x", 48);
        fault(1, EIGHT_CARTERS.substring(0, 54) + "x", 54);
    }

    private static void textsNotEnded() {
        Sentences.term("of one that is not ended, its end");
        for (int end = 1; end < TEN_WAYS.length(); end++) {
            fault(0, TEN_WAYS.substring(0, end), end % 5 == 4 ? -1 : end);
        }
        for (int end = 1; end < EIGHT_CARTERS.length(); end++) {
            fault(1, EIGHT_CARTERS.substring(0, end), end % 7 == 6 ? -1 : end);
        }
    }

    private static void noRoomForMore() {
        // The text is full behind the tenth and the eighth, so that no byte of one more can come.
        Sentences.term("here also of the first byte of an eleventh WAY, of a ninth CARTER");
        QuestionRoad x = Checks.road(TEN_WAYS, EIGHT_CARTERS);
        due(x, -4, "type", 0, ';');
        due(x, -4, "type", 1, ';');
        due(x, -1, "fault", 0);
        due(x, -1, "fault", 1);
        due(x, 10, "count", 0);
        due(x, 8, "count", 1);
        due(x, -2, "way", 10, 0);
        due(x, -2, "carter", 8, 0);
    }

    private static void asIfItWasEmpty() {
        Sentences.term("With a FAULT a text is as if it was empty.");
        for (String faulty : new String[] {"ab1u;", "ab1ux", "ab1u;x", "ab1u;bc", "xab1u"}) {
            QuestionRoad x = Checks.road(faulty, "aao000;abo990");
            due(x, 0, "count", 0);
            due(x, faulty.length(), "count", 2);
            due(x, -2, "way", 0, 0);
            due(x, -1, "far", 0, 1);
            due(x, 0, "far", 1, 1);
            due(x, -1, "level", 0);
            due(x, 1, "who", 2);
            due(x, 2, "who", 5);
        }
        for (String faulty : new String[] {"aao000;", "aao000x", "aao000;x", "aao000;aao00", "xaao000"}) {
            QuestionRoad x = Checks.road("ab1u", faulty);
            x.seen(0, 0, 0);
            x.answer(39, 7);
            due(x, 0, "count", 1);
            due(x, faulty.length(), "count", 3);
            due(x, -2, "carter", 0, 0);
            due(x, -2, "at", 0, 0, 0);
            due(x, 0, "count", 5);
            due(x, 0, "count", 6);
            due(x, -1, "busiest");
            due(x, -1, "lend", 0);
            due(x, 0, "level", 1);
            due(x, 0, "never");
            due(x, 0, "market", 7, 0);
            due(x, 3, "far", 0, 1);
        }
    }

    private static void ways() {
        Sentences.promise(6, "The first PLACE (what = 0), the other one (1), how LONG (2),"
            + " how it goes (3: 0 u, 1 f, 2 d) of a WAY.");
        QuestionRoad x = Checks.road("ah1u;ha9d;bc5f", "");
        Face.dueRow(x, Face.row(0, 7, 1, 0, -2), "way", 0);
        Face.dueRow(x, Face.row(7, 0, 9, 2, -2), "way", 1);
        Face.dueRow(x, Face.row(1, 2, 5, 1, -2), "way", 2);
        Face.dueRow(x, Face.row(-2, -2, -2, -2, -2), "way", 3);
        Face.dueRow(x, Face.row(-2, -2, -2, -2, -2), "way", -1);
        x = Checks.road(TEN_WAYS, "");
        Face.dueRow(x, Face.row(1, 3, 1, 0, -2), "way", 9);
    }

    private static void carters() {
        Sentences.promise(7, "From where (what = 0), the GOAL (1), the sort (2: 0 o, 1 c, 2 r),"
            + " STRENGTH (3), LOAD (4) of a CARTER.");
        QuestionRoad x = Checks.road("", "aho000;hac999;aar099;hho901");
        Face.dueRow(x, Face.row(0, 7, 0, 0, 0, -2), "carter", 0);
        Face.dueRow(x, Face.row(7, 0, 1, 99, 9, -2), "carter", 1);
        Face.dueRow(x, Face.row(0, 0, 2, 9, 9, -2), "carter", 2);
        Face.dueRow(x, Face.row(7, 7, 0, 90, 1, -2), "carter", 3);
        Face.dueRow(x, Face.row(-2, -2, -2, -2, -2, -2), "carter", 4);
        Face.dueRow(x, Face.row(-2, -2, -2, -2, -2, -2), "carter", -1);
        x = Checks.road("", EIGHT_CARTERS);
        Face.dueRow(x, Face.row(7, 0, 1, 99, 9, -2), "carter", 7);
    }

    private static void lates() {
        Sentences.promise(8, "LATE of a CARTER (0 to 7): what it was.");
        QuestionRoad x = new QuestionRoad();
        due(x, -2, "late", -1, 0);
        due(x, -2, "late", 8, 0);
        due(x, -2, "late", 0, -1);
        due(x, -2, "late", 0, 10);
        for (int c = 0; c < 8; c++) {
            due(x, 0, "late", c, 9);
            due(x, 9, "late", c, 0);
            due(x, 0, "late", c, c);
        }
        for (int c = 0; c < 8; c++) {
            due(x, c, "late", c, c);
        }
        Sentences.term("0 to 9 (0 at first), whether it is there or not.");
        x = new QuestionRoad();
        due(x, 0, "late", 1, 9);
        Checks.put(x, 1, "aao000;aao000");
        due(x, 0, "ends", 0);
        due(x, 9, "ends", 1);
        x.wipe(1);
        due(x, 9, "late", 1, 7);
        Checks.put(x, 1, "aao000;aao000");
        due(x, 7, "ends", 1);
        due(x, 0, "late", 7, 3);
        due(x, 3, "late", 7, 3);
    }
}
