/** Promises 9 to 17: ANSWERS, and what is so in which HOUR. */
public final class HoursTest {
    public static void main(String[] args) {
        answers();
        reading();
        readingBehindOthers();
        oneRoad();
        whatIsAskedFirst();
        theRiddleAndTheCommon();
        farAndTurns();
        lastHour();
        meetings();
        busiest();
        refusals();
        Checks.end("HoursTest");
    }

    private static void due(String call, long got, long want) {
        Checks.due(call, got, want);
    }

    private static void is(QuestionRoad x, int hour, int carter, int what, int place, int strength, int whither) {
        String of = "(" + hour + ", " + carter + ", ";
        due("at" + of + "0)", x.at(hour, carter, 0), what);
        due("at" + of + "1)", x.at(hour, carter, 1), place);
        due("at" + of + "2)", x.at(hour, carter, 2), strength);
        due("at" + of + "3)", x.at(hour, carter, 3), whither);
    }

    private static void answers() {
        QuestionRoad x = new QuestionRoad();
        due("answer(-1, 0)", x.answer(-1, 0), -2);
        due("answer(40, 0)", x.answer(40, 0), -2);
        due("answer(0, -1)", x.answer(0, -1), -2);
        due("answer(0, 8)", x.answer(0, 8), -2);
        due("back of none", x.back(), -3);
        for (int n = 1; n <= 8; n++) {
            due("answer " + n, x.answer(n == 1 ? 0 : 39, n == 2 ? 7 : 0), n);
        }
        due("a ninth", x.answer(0, 0), -4);
        due("a ninth, wrong", x.answer(40, 0), -2);
        due("count(4)", x.count(4), 8);
        for (int n = 7; n >= 0; n--) {
            due("back", x.back(), n);
        }
        due("back of none again", x.back(), -3);
        x = Checks.road("ab1f", "abo990");
        x.answer(3, 1);
        x.answer(0, 0);
        due("told", x.who(3), 1);
        due("the last is undone", x.back(), 1);
        due("not told", x.who(2), 1);
    }

    private static void reading() {
        QuestionRoad x = Checks.road("ab1f", "abo990");
        due("read(-1)", x.read(-1), -2);
        due("read(4)", x.read(4), -2);
        due("no finding", x.count(8), 0);
        due("read of a lost one", x.read(2), -11);
        due("NULL", x.count(8), 1);
        x.sheet(0, 2, 5);
        x.lay(0, 2, 0, 39);
        x.lay(0, 2, 1, 7);
        x.lay(0, 2, 2, 1);
        x.lay(0, 2, 3, 1);
        x.lay(0, 2, 4, 1);
        due("two are whole", x.read(0), 2);
        due("both are there", x.count(4), 2);
        due("not told by them", x.who(2), 1);
        x.lay(0, 2, 2, 40);
        due("as long as the hour may be", x.read(0), 1);
        x.lay(0, 2, 2, 0);
        x.lay(0, 2, 3, -1);
        due("as long as the place may be", x.read(0), 1);
        x.lay(0, 2, 1, 8);
        due("the first may not be", x.read(0), 0);
        due("those before are there", x.count(4), 4);
        x.sheet(1, 1, 0);
        due("an empty sheet", x.read(1), 0);
        x.sheet(1, 1, 1);
        due("half an answer", x.read(1), 0);
        due("still four", x.count(4), 4);
    }

    private static void readingBehindOthers() {
        QuestionRoad x = Checks.road("ab1f", "abo990");
        x.answer(0, 0);
        x.sheet(0, 0, 2);
        x.lay(0, 0, 0, 39);
        due("one more", x.read(0), 1);
        due("the earlier one is there", x.count(4), 2);
        due("told by it", x.who(3), 1);
        due("that of the sheet is the last", x.back(), 1);
        due("told as before", x.who(3), 1);
        due("the earlier one is undone", x.back(), 0);
        due("not told any more", x.who(2), 1);
        for (int n = 1; n <= 5; n++) {
            x.answer(39, 7);
        }
        x.sheet(1, 0, 60);
        due("as many as there is room for", x.read(1), 3);
        due("told at a in hour 0", x.who(3), 1);
        due("full", x.answer(0, 0), -4);
        due("no room for one", x.read(1), 0);
        due("eight are there", x.count(4), 8);
        due("no finding", x.count(8), 0);
        for (int n = 7; n >= 5; n--) {
            due("back", x.back(), n);
        }
        due("those before tell nobody", x.who(2), 1);
        due("three again", x.read(1), 3);
        x = new QuestionRoad();
        x.sheet(1, 0, 60);
        due("eight at most", x.read(1), 8);
        due("eight", x.count(4), 8);
    }

    private static void oneRoad() {
        QuestionRoad x = Checks.road("ab2u;bc1f", "aco301");
        is(x, 0, 0, 1, -1, 23, 1);
        is(x, 5, 0, 1, -1, 23, 1);
        is(x, 6, 0, 1, -1, 20, 2);
        is(x, 7, 0, 1, -1, 20, 2);
        is(x, 8, 0, 2, 2, 20, -1);
        is(x, 39, 0, 2, 2, 20, -1);
        due("ends", x.ends(0), 8);
        x.late(0, 3);
        is(x, 0, 0, 0, -1, 30, -1);
        is(x, 2, 0, 0, -1, 30, -1);
        is(x, 3, 0, 1, -1, 23, 1);
        due("ends later", x.ends(0), 11);
        x.answer(9, 1);
        is(x, 8, 0, 1, -1, 23, 1);
        is(x, 9, 0, 3, 1, 23, -1);
        due("told at b", x.ends(0), 9);
        x.back();
        Checks.put(x, 1, "aco091");
        is(x, 8, 0, 1, -1, 2, 1);
        is(x, 9, 0, 4, 1, 2, -1);
        Checks.put(x, 1, "aco101");
        is(x, 39, 0, 2, 2, 0, -1);
        Checks.put(x, 1, "aco061");
        is(x, 3, 0, 4, 0, 6, -1);
        Checks.put(x, 1, "ado991");
        is(x, 2, 0, 0, -1, 99, -1);
        is(x, 3, 0, 5, 0, 99, -1);
        due("lost", x.who(5), 1);
        due("not tired", x.who(4), 0);
    }

    private static void whatIsAskedFirst() {
        QuestionRoad x = Checks.road("ab1f", "aao000");
        x.answer(0, 0);
        due("at its GOAL it is not told", x.who(2), 1);
        Checks.put(x, 1, "aco000");
        due("told before lost", x.who(3), 1);
        Checks.put(x, 1, "abo000");
        due("told before tired", x.who(3), 1);
        x.back();
        Checks.put(x, 1, "aco000");
        due("lost before tired", x.who(5), 1);
        Checks.put(x, 1, "abo000");
        due("tired", x.who(4), 1);
        x.answer(1, 0);
        due("an answer after it came by tells nothing", x.who(4), 1);
        due("tired in hour 0", x.ends(0), 0);
    }

    private static void theRiddleAndTheCommon() {
        QuestionRoad x = Checks.road("ab1f;bc1f", "acr990");
        x.answer(0, 0);
        x.answer(2, 1);
        due("a riddle is never answered", x.who(2), 1);
        Checks.put(x, 1, "acr990;acr990");
        due("two riddles", x.who(2), 3);
        x.back();
        x.back();
        Checks.put(x, 1, "acc990");
        due("a common one alone", x.who(2), 1);
        x.answer(2, 1);
        due("a common one by an answer", x.who(3), 1);
        x.back();
        Checks.put(x, 1, "acc990;acc990");
        due("two common ones tell each other", x.who(3), 3);
        Checks.put(x, 1, "acc990;aco990");
        due("one that sets out is present", x.who(3), 1);
        due("an open one is not answered by it", x.who(2), 2);
        x.late(1, 1);
        due("one that is away is not present", x.who(2), 3);
        x.late(1, 0);
        x.late(0, 1);
        due("one that has left is not present", x.who(2), 3);
        Checks.put(x, 1, "acc990;bbo000");
        due("one that came earlier is present", x.who(3), 1);
        due("told at b", x.at(39, 0, 1), 1);
        Checks.put(x, 1, "acc990;bho000");
        due("one that is lost is present", x.who(3), 1);
        Checks.put(x, 1, "acc990;bco000");
        due("one that is tired is present", x.who(3), 1);
        Checks.put(x, 1, "acc990;cao990");
        x.late(0, 0);
        due("they meet at b on their ways", x.who(3), 1);
        due("where they met", x.met(1), 1);
        due("when they met", x.met(0), 2);
        Checks.put(x, 1, "ccc990;cco990");
        due("at its GOAL a common one has come", x.who(2), 3);
    }

    private static void farAndTurns() {
        QuestionRoad x = Checks.road("ab3u;ab4f;ba9d;cb1d", "");
        due("the least of three", x.far(0, 1), 8);
        due("the least back", x.far(1, 0), 3);
        due("down", x.far(2, 1), 1);
        due("up", x.far(1, 2), 3);
        due("by b", x.far(0, 2), 11);
        due("to itself", x.far(7, 7), 0);
        Checks.put(x, 0, "ba1f;ac1f;hb1f");
        due("by a", x.far(1, 2), 4);
        due("by b and a", x.far(7, 2), 6);
        Checks.put(x, 0, "ah1f;hb1f");
        due("by h", x.far(0, 1), 4);
        Checks.put(x, 0, "ab1f");
        due("no ways", x.far(0, 7), -1);
        due("no ways from there", x.far(7, 0), -1);
        due("far(-1, 0)", x.far(-1, 0), -2);
        due("far(0, -1)", x.far(0, -1), -2);
        due("far(8, 0)", x.far(8, 0), -2);
        due("far(0, 8)", x.far(0, 8), -2);
        x = Checks.road("ac1f;cd1f;ab1f;bd1f", "adr990");
        due("the least place", x.at(0, 0, 3), 1);
        x = Checks.road("ac2f;cd1d;ad3f;ab3f;bd3f", "adr990");
        due("the least place by which it is no farther", x.at(0, 0, 3), 2);
        due("it comes by c", x.ends(0), 5);
        x = Checks.road("ah1f;hb1f;ab2f", "abr990");
        due("b itself is less than h", x.at(0, 0, 3), 1);
        x = Checks.road("ab1f;bh1f;ah2f", "ahr041");
        due("b is less than h, though it costs a load more", x.at(0, 0, 3), 1);
        due("and so it tires", x.at(39, 0, 0), 4);
        due("at b", x.at(39, 0, 1), 1);
        due("with so much left", x.at(39, 0, 2), 1);
    }

    private static void lastHour() {
        QuestionRoad x = Checks.road("ab9u;bc6f", "aco990");
        due("it comes in hour 39", x.ends(0), 39);
        is(x, 38, 0, 1, -1, 60, 2);
        is(x, 39, 0, 2, 2, 60, -1);
        due("three arrive", x.count(6), 3);
        x.late(0, 1);
        due("hour 40 is none", x.ends(0), -1);
        is(x, 39, 0, 1, -1, 60, 2);
        due("none of these at last", x.who(2) + x.who(3) + x.who(4) + x.who(5), 0);
        due("two arrive", x.count(6), 2);
        due("nobody comes", x.count(5), 0);
        x.late(0, 0);
        x.answer(39, 2);
        due("at its GOAL in hour 39", x.who(2), 1);
        Checks.put(x, 1, "abo990");
        x.late(0, 9);
        due("it comes in hour 36", x.ends(0), 36);
    }

    private static void meetings() {
        QuestionRoad x = Checks.road("ab1f", "");
        due("met of none, hour", x.met(0), -1);
        due("met of none, place", x.met(1), -1);
        Checks.put(x, 1, "abr990");
        due("met of one", x.met(0), -1);
        Checks.put(x, 1, "abr990;bar990");
        due("they pass each other", x.met(0), -1);
        x.late(1, 2);
        due("they meet in hour 2", x.met(0), 2);
        due("at b", x.met(1), 1);
        Checks.put(x, 1, "hhr000;ggr000;hhr000;ggr000");
        x.late(1, 0);
        due("the first hour", x.met(0), 0);
        due("the least place", x.met(1), 6);
        x.late(3, 1);
        due("the first hour comes first", x.met(1), 7);
        Checks.put(x, 1, "aar000;aar000");
        due("two at a, the hour", x.met(0), 0);
        due("two at a", x.met(1), 0);
        Checks.put(x, 1, "aar000");
        due("one is gone, the hour", x.met(0), -1);
        due("one is gone, the place", x.met(1), -1);
        due("met(-1)", x.met(-1), -2);
        due("met(2)", x.met(2), -2);
    }

    private static void busiest() {
        QuestionRoad x = Checks.road("ab1f;bc1f", "");
        due("nobody arrives", x.busiest(), -1);
        Checks.put(x, 1, "hho000");
        due("one arrives where it begins", x.busiest(), 7);
        Checks.put(x, 1, "acr990;car990");
        due("of like ones the least", x.busiest(), 0);
        Checks.put(x, 1, "acr990;cbr990");
        due("b and c have two each", x.busiest(), 1);
        Checks.put(x, 1, "acr990;ccr990");
        due("c has two", x.busiest(), 2);
        due("four arrive", x.count(6), 4);
        due("two come", x.count(5), 2);
    }

    private static void refusals() {
        QuestionRoad x = Checks.road("ab1f", "abo990;bao990");
        int[][] bad = {{-1, 0, 0}, {40, 0, 0}, {0, -1, 0}, {0, 2, 0}, {0, 0, -1}, {0, 0, 4}, {1 << 31, 1 << 31, 1 << 31}};
        for (int[] b : bad) {
            due("at(" + b[0] + ", " + b[1] + ", " + b[2] + ")", x.at(b[0], b[1], b[2]), -2);
        }
        due("ends(-1)", x.ends(-1), -2);
        due("ends(2)", x.ends(2), -2);
        due("who(1)", x.who(1), -2);
        due("who(6)", x.who(6), -2);
        due("who(-1)", x.who(-1), -2);
        due("who(2)", x.who(2), 3);
        due("who(3)", x.who(3), 0);
        due("who(4)", x.who(4), 0);
        due("who(5)", x.who(5), 0);
    }
}
