/** What all tests of the project share: typing texts, and telling what is not as due. */
final class Checks {
    private static int calls = 0;
    private static int wrong = 0;
    private static String heading = "";

    private Checks() {
    }

    /** What stands ahead of each answer that is not as due from now on. */
    static void heading(String words) {
        heading = words.isEmpty() ? "" : words + ": ";
    }

    static void due(String call, long got, long want) {
        calls++;
        if (got != want) {
            wrong++;
            System.out.println(heading + call + " answered " + got + ", due is " + want);
        }
    }

    /** How many answers were looked at so far. */
    static int looked() {
        return calls;
    }

    static void dueTrue(String what, boolean is) {
        due(what, is ? 1 : 0, 1);
    }

    /** An object with texts typed. */
    static QuestionRoad road(String ways, String carters) {
        QuestionRoad x = new QuestionRoad();
        put(x, 0, ways);
        put(x, 1, carters);
        return x;
    }

    static void put(QuestionRoad x, int text, String signs) {
        x.wipe(text);
        for (int i = 0; i < signs.length(); i++) {
            due("type(" + text + ", " + signs.charAt(i) + ")", x.type(text, signs.charAt(i)), i + 1);
        }
    }

    static void end(String name) {
        System.out.println(name + ": " + calls + " answers, " + wrong + " not as due");
        if (wrong != 0) {
            System.exit(1);
        }
    }
}
