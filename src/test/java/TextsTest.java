/** Promises 1 to 8: a new object, the two texts, LATE. */
public final class TextsTest {
    private static final String TEN_WAYS = "ab1u;bc2f;cd3d;de4u;ef5f;fg6d;gh7u;ha8f;ac9d;bd1u";
    private static final String EIGHT_CARTERS =
        "abo000;bcc111;cdr222;deo333;efc444;fgr555;gho666;hac999";

    public static void main(String[] args) {
        newObject();
        typing();
        wiping();
        undoing();
        faultsOfWays();
        faultsOfCarters();
        ways();
        carters();
        lates();
        Checks.end("TextsTest");
    }

    private static void due(String call, long got, long want) {
        Checks.due(call, got, want);
    }

    private static void newObject() {
        QuestionRoad x = new QuestionRoad();
        for (int what = 0; what <= 8; what++) {
            due("new count(" + what + ")", x.count(what), 0);
        }
        for (int s = 0; s < 4; s++) {
            due("new lose", x.lose(s), -11);
        }
        due("new back", x.back(), QuestionRoad.NOT);
        due("new forget", x.forget(), 0);
        due("new fault(0)", x.fault(0), QuestionRoad.NONE);
        due("new fault(1)", x.fault(1), QuestionRoad.NONE);
        for (int c = 0; c < 8; c++) {
            due("new late", x.late(c, 0), 0);
        }
        due("NONE", QuestionRoad.NONE, -1);
        due("BAD", QuestionRoad.BAD, -2);
        due("NOT", QuestionRoad.NOT, -3);
        due("FULL", QuestionRoad.FULL, -4);
    }

    private static void typing() {
        QuestionRoad x = new QuestionRoad();
        due("type(-1, 97)", x.type(-1, 97), -2);
        due("type(2, 97)", x.type(2, 97), -2);
        due("type(0, -1)", x.type(0, -1), -2);
        due("type(0, 256)", x.type(0, 256), -2);
        due("type(least)", x.type(Integer.MIN_VALUE, Integer.MAX_VALUE), -2);
        due("count(2)", x.count(2), 0);
        due("type(0, 0)", x.type(0, 0), 1);
        due("type(0, 255)", x.type(0, 255), 2);
        due("count(2) of both", x.count(2), 2);
        due("count(3) of none", x.count(3), 0);
        for (int text = 0; text < 2; text++) {
            int most = text == 0 ? 49 : 55;
            x.wipe(text);
            for (int i = 1; i <= most; i++) {
                due("type " + i, x.type(text, 'a'), i);
            }
            due("type when full", x.type(text, 'a'), -4);
            due("type when full, no byte", x.type(text, 256), -2);
            due("bytes when full", x.count(2 + text), most);
            due("undo when full", x.undo(text), most - 1);
            due("type after undo", x.type(text, 'a'), most);
        }
    }

    private static void wiping() {
        QuestionRoad x = Checks.road("ab1u", "abo990");
        due("wipe(-1)", x.wipe(-1), -2);
        due("wipe(2)", x.wipe(2), -2);
        due("wipe(0)", x.wipe(0), 4);
        due("wipe(0) again", x.wipe(0), 0);
        due("no ways", x.count(0), 0);
        due("far without ways", x.far(0, 1), -1);
        due("carters stay", x.count(1), 1);
        due("wipe(1)", x.wipe(1), 6);
        due("no carters", x.count(1), 0);
        due("nobody", x.who(5), 0);
        Checks.put(x, 0, TEN_WAYS);
        due("wipe of a full one", x.wipe(0), 49);
    }

    private static void undoing() {
        QuestionRoad x = Checks.road("ab1u", "");
        due("undo(2)", x.undo(2), -2);
        due("undo(-1)", x.undo(-1), -2);
        due("undo(1)", x.undo(1), -3);
        due("undo(0)", x.undo(0), 3);
        due("ways are not ended", x.count(0), 0);
        due("far by ways that are not ended", x.far(0, 1), -1);
        due("type again", x.type(0, 'd'), 4);
        due("ways are there again", x.far(0, 1), 1);
        for (int left = 3; left >= 0; left--) {
            due("undo", x.undo(0), left);
        }
        due("undo of empty", x.undo(0), -3);
        Checks.put(x, 1, "aao000");
        due("one comes", x.count(5), 1);
        x.undo(1);
        due("nobody comes when its text is undone", x.count(5), 0);
    }

    private static void fault(int text, String signs, int want) {
        QuestionRoad x = new QuestionRoad();
        Checks.put(x, text, signs);
        due("fault of " + signs, x.fault(text), want);
        due("items of " + signs, x.count(text), want != -1 || signs.isEmpty() ? 0 : signs.split(";").length);
    }

    private static void faultsOfWays() {
        due("fault(2)", new QuestionRoad().fault(2), -2);
        due("fault(-1)", new QuestionRoad().fault(-1), -2);
        String[] well = {"", "ab1u", "hg9d", "ab1f;ba1f", TEN_WAYS};
        for (String s : well) {
            fault(0, s, -1);
        }
        for (int end = 1; end < TEN_WAYS.length(); end++) {
            fault(0, TEN_WAYS.substring(0, end), end % 5 == 4 ? -1 : end);
        }
        fault(0, "i", 0);
        fault(0, "A", 0);
        fault(0, ";", 0);
        fault(0, "`", 0);
        fault(0, "ai1u", 1);
        fault(0, "aa1u", 1);
        fault(0, "ab0u", 2);
        fault(0, "ab:u", 2);
        fault(0, "ab1x", 3);
        fault(0, "ab1U", 3);
        fault(0, "ab1uu", 4);
        fault(0, "ab1u;hh1u", 6);
        fault(0, "ab1u;;", 5);
        fault(0, "ab1u;bc1x;ii", 8);
        // The ; of ten WAYS would be the fiftieth byte: there is no room for an eleventh.
        QuestionRoad x = Checks.road(TEN_WAYS, "");
        due("ten ways", x.count(0), 10);
        due("an eleventh way", x.type(0, ';'), -4);
        due("still ten ways", x.count(0), 10);
        // As if it was empty, for all that is asked; the bytes are there.
        Checks.put(x, 0, "ab1u;bc1");
        due("way of a faulty text", x.way(0, 0), -2);
        due("far by a faulty text", x.far(0, 1), -1);
        due("level of a faulty text", x.level(0), -1);
        due("bytes of a faulty text", x.count(2), 8);
    }

    private static void faultsOfCarters() {
        String[] well = {"", "aao000", "hhr999", "ahc019;hao000", EIGHT_CARTERS};
        for (String s : well) {
            fault(1, s, -1);
        }
        for (int end = 1; end < EIGHT_CARTERS.length(); end++) {
            fault(1, EIGHT_CARTERS.substring(0, end), end % 7 == 6 ? -1 : end);
        }
        fault(1, "i", 0);
        fault(1, "1", 0);
        fault(1, "ai", 1);
        fault(1, "aa1", 2);
        fault(1, "aau", 2);
        fault(1, "aaox", 3);
        fault(1, "aao0;", 4);
        fault(1, "aao00a", 5);
        fault(1, "aao0000", 6);
        fault(1, "aao000;i", 7);
        fault(1, "aao000;aax", 9);
        QuestionRoad x = Checks.road("", EIGHT_CARTERS);
        due("eight carters", x.count(1), 8);
        due("a ninth carter", x.type(1, ';'), -4);
        x.undo(1);
        due("carter of a faulty text", x.carter(0, 0), -2);
        due("ends by a faulty text", x.ends(0), -2);
        due("bytes of a faulty text", x.count(3), 54);
    }

    private static void ways() {
        QuestionRoad x = Checks.road(TEN_WAYS, "");
        String[] parts = TEN_WAYS.split(";");
        for (int w = 0; w < 10; w++) {
            due("way(w, 0)", x.way(w, 0), parts[w].charAt(0) - 'a');
            due("way(w, 1)", x.way(w, 1), parts[w].charAt(1) - 'a');
            due("way(w, 2)", x.way(w, 2), parts[w].charAt(2) - '0');
            due("way(w, 3)", x.way(w, 3), "ufd".indexOf(parts[w].charAt(3)));
        }
        due("way(-1, 0)", x.way(-1, 0), -2);
        due("way(10, 0)", x.way(10, 0), -2);
        due("way(0, -1)", x.way(0, -1), -2);
        due("way(0, 4)", x.way(0, 4), -2);
        due("way(greatest)", x.way(Integer.MAX_VALUE, Integer.MIN_VALUE), -2);
        Checks.put(x, 0, "ab1u");
        due("way(1, 0) of one", x.way(1, 0), -2);
    }

    private static void carters() {
        QuestionRoad x = Checks.road("", "aho007;hac990;bbr129");
        int[][] want = {{0, 7, 0, 0, 7}, {7, 0, 1, 99, 0}, {1, 1, 2, 12, 9}};
        for (int c = 0; c < 3; c++) {
            for (int what = 0; what < 5; what++) {
                due("carter(" + c + ", " + what + ")", x.carter(c, what), want[c][what]);
            }
        }
        due("carter(3, 0)", x.carter(3, 0), -2);
        due("carter(-1, 0)", x.carter(-1, 0), -2);
        due("carter(0, 5)", x.carter(0, 5), -2);
        due("carter(0, -1)", x.carter(0, -1), -2);
    }

    private static void lates() {
        QuestionRoad x = new QuestionRoad();
        due("late(-1, 0)", x.late(-1, 0), -2);
        due("late(8, 0)", x.late(8, 0), -2);
        due("late(0, -1)", x.late(0, -1), -2);
        due("late(0, 10)", x.late(0, 10), -2);
        due("late(0, 9)", x.late(0, 9), 0);
        due("late(7, 4)", x.late(7, 4), 0);
        due("late(0, 10) again", x.late(0, 10), -2);
        Checks.put(x, 0, "ab1d");
        Checks.put(x, 1, "abo990");
        due("LATE from before it was there", x.ends(0), 10);
        x.wipe(1);
        Checks.put(x, 1, "abo990");
        due("LATE stays when the text is wiped", x.ends(0), 10);
        due("late(0, 0)", x.late(0, 0), 9);
        due("ends by LATE 0", x.ends(0), 1);
        due("late(7, 0)", x.late(7, 0), 4);
    }
}
