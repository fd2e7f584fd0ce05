/** Promises 30 to 36: SHEETS, FINDINGS, count. */
public final class SheetsTest {
    private static final int LEAST = Integer.MIN_VALUE;

    public static void main(String[] args) {
        making();
        losing();
        layingAndGetting();
        forms();
        copying();
        copyRefusals();
        writing();
        counting();
        Checks.end("SheetsTest");
    }

    private static void due(String call, long got, long want) {
        Checks.due(call, got, want);
    }

    private static void finding(QuestionRoad x, int want) {
        due("count(8)", x.count(8), want);
    }

    private static void making() {
        QuestionRoad x = new QuestionRoad();
        due("sheet(-1, 0, 0)", x.sheet(-1, 0, 0), -2);
        due("sheet(4, 0, 0)", x.sheet(4, 0, 0), -2);
        due("sheet(0, -1, 0)", x.sheet(0, -1, 0), -2);
        due("sheet(0, 3, 0)", x.sheet(0, 3, 0), -2);
        due("sheet(0, 0, 61)", x.sheet(0, 0, 61), -2);
        due("sheet(4, 0, -1)", x.sheet(4, 0, -1), -2);
        finding(x, 0);
        due("sheet(0, 0, -1)", x.sheet(0, 0, -1), -15);
        finding(x, 5);
        due("it is still lost", x.lose(0), -11);
        due("sheet(0, 0, least)", x.sheet(0, 0, LEAST), -15);
        for (int form = 0; form < 3; form++) {
            due("sheet of 0", x.sheet(form, form, 0), 0);
            due("get of 0", x.get(form, form, 0), LEAST);
            due("sheet of 60", x.sheet(form, form, 60), 60);
            due("get(0)", x.get(form, form, 0), 0);
            due("get(59)", x.get(form, form, 59), 0);
            due("get(60)", x.get(form, form, 60), LEAST);
        }
        x.lay(1, 1, 0, 66);
        x.lay(1, 1, 5, 77);
        due("SIZE changes nothing", x.sheet(1, 1, -5), -15);
        due("it is as it was", x.get(1, 1, 5), 77);
        due("a new row", x.sheet(1, 1, 6), 6);
        due("of zeros", x.get(1, 1, 5), 0);
        due("of zeros from 0 on", x.get(1, 1, 0), 0);
        due("of six items", x.get(1, 1, 6), LEAST);
    }

    private static void losing() {
        QuestionRoad x = new QuestionRoad();
        due("lose(-1)", x.lose(-1), -2);
        due("lose(4)", x.lose(4), -2);
        finding(x, 0);
        due("lose of a lost one", x.lose(3), -11);
        finding(x, 1);
        x.sheet(3, 2, 7);
        due("lose", x.lose(3), 7);
        due("lose again", x.lose(3), -11);
        due("get of a lost one", x.get(3, 2, 0), LEAST);
        x.sheet(3, 2, 0);
        due("lose of an empty one", x.lose(3), 0);
    }

    private static void layingAndGetting() {
        QuestionRoad x = new QuestionRoad();
        due("lay of a lost one", x.lay(0, 0, 0, 1), -11);
        due("lay, no sheet", x.lay(4, 0, 0, 1), -2);
        due("lay, no form", x.lay(0, 3, 0, 1), -2);
        due("lay, no sheet", x.lay(-1, 0, 0, 1), -2);
        due("lay, no form", x.lay(0, -1, 0, 1), -2);
        finding(x, 1);
        x.sheet(0, 1, 3);
        due("lay as bytes", x.lay(0, 0, 9, 1), -13);
        finding(x, 3);
        due("lay behind", x.lay(0, 1, 3, 1), -12);
        finding(x, 2);
        due("lay below", x.lay(0, 1, -1, 1), -12);
        due("lay", x.lay(0, 1, 2, 1234), 1);
        finding(x, 2);
        due("get", x.get(0, 1, 2), 1234);
        due("get as ints", x.get(0, 2, 2), LEAST);
        finding(x, 3);
        due("get behind", x.get(0, 1, 3), LEAST);
        finding(x, 2);
        due("get of a lost one", x.get(1, 1, 0), LEAST);
        finding(x, 1);
        x.get(0, 0, 0);
        finding(x, 3);
        due("get, no sheet", x.get(4, 0, 0), LEAST);
        due("get, no sheet", x.get(-1, 0, 0), LEAST);
        due("get, no form", x.get(1, 3, 0), LEAST);
        due("get, no form", x.get(1, -1, 0), LEAST);
        finding(x, 3);
        due("get below", x.get(0, 1, -1), LEAST);
        finding(x, 2);
    }

    private static void forms() {
        QuestionRoad x = new QuestionRoad();
        int[] values = {0, 1, -1, 127, 128, 255, 256, -128, -129, 32767, 32768, 65535, 65536, -32769, LEAST, Integer.MAX_VALUE};
        for (int form = 0; form < 3; form++) {
            x.sheet(form, form, 1);
            for (int v : values) {
                due("lay(" + v + ")", x.lay(form, form, 0, v), 1);
                due("get of " + v, x.get(form, form, 0), form == 0 ? (byte) v : form == 1 ? (short) v : v);
            }
        }
    }

    private static void fill(QuestionRoad x, int s, int n) {
        x.sheet(s, 2, n);
        for (int i = 0; i < n; i++) {
            x.lay(s, 2, i, 10 * s + i);
        }
    }

    private static void holds(QuestionRoad x, int s, int... want) {
        for (int i = 0; i < want.length; i++) {
            due("item " + i + " of " + s, x.get(s, 2, i), want[i]);
        }
    }

    private static void copying() {
        QuestionRoad x = new QuestionRoad();
        fill(x, 1, 5);
        fill(x, 2, 4);
        due("copy to another", x.copy(1, 1, 2, 2, 2), 1);
        holds(x, 2, 20, 21, 11, 12);
        holds(x, 1, 10, 11, 12, 13, 14);
        due("copy upward to itself", x.copy(1, 0, 1, 1, 4), 1);
        holds(x, 1, 10, 10, 11, 12, 13);
        fill(x, 1, 5);
        due("copy downward to itself", x.copy(1, 1, 1, 0, 4), 1);
        holds(x, 1, 11, 12, 13, 14, 14);
        due("copy of none at the ends", x.copy(1, 5, 2, 4, 0), 1);
        due("copy of all", x.copy(2, 0, 1, 1, 4), 1);
        holds(x, 1, 11, 20, 21, 11, 12);
        finding(x, 0);
    }

    private static void copyRefusals() {
        QuestionRoad x = new QuestionRoad();
        due("no sheet s", x.copy(-1, 0, 0, 0, 0), -2);
        due("no sheet t", x.copy(0, 0, 4, 0, 0), -2);
        due("both lost", x.copy(0, 0, 1, 0, 0), -11);
        x.sheet(0, 0, 3);
        due("t is lost", x.copy(0, 9, 1, 9, 9), -11);
        due("s is lost", x.copy(1, 9, 0, 9, 9), -11);
        x.sheet(1, 1, 3);
        due("unlike forms before index", x.copy(0, 9, 1, 9, 9), -14);
        finding(x, 4);
        due("unlike forms, none", x.copy(0, 0, 1, 0, 0), -14);
        x.sheet(1, 0, 3);
        int[][] bad = {{-1, 0, 1}, {0, -1, 1}, {0, 0, -1}, {0, 0, 4}, {1, 0, 3}, {0, 1, 3}, {4, 0, 0}, {0, 4, 0},
            {Integer.MAX_VALUE, 0, 1}, {1, 0, Integer.MAX_VALUE}, {0, 1, Integer.MAX_VALUE}, {0, Integer.MAX_VALUE, 1},
            {LEAST, LEAST, LEAST}, {3, 0, 1}, {0, 3, 1}};
        for (int[] b : bad) {
            x.lay(0, 2, 0, 0);
            finding(x, 3);
            due("copy(0, " + b[0] + ", 1, " + b[1] + ", " + b[2] + ")", x.copy(0, b[0], 1, b[1], b[2]), -12);
            finding(x, 2);
        }
    }

    private static void writing() {
        QuestionRoad x = Checks.road("ab1f", "abo990;bao000");
        due("write(2, 0)", x.write(2, 0), -2);
        due("write(-1, 0)", x.write(-1, 0), -2);
        due("write(0, 4)", x.write(0, 4), -2);
        due("write(0, -1)", x.write(0, -1), -2);
        finding(x, 0);
        due("write to a lost one", x.write(0, 0), -11);
        finding(x, 1);
        for (int form = 0; form < 3; form++) {
            x.sheet(form, form, 60);
            for (int i = 0; i < 60; i++) {
                x.lay(form, form, i, 99);
            }
            due("write, 40 at most", x.write(0, form), 40);
            due("hour 0", x.get(form, form, 0), -1);
            due("hour 1", x.get(form, form, 1), -1);
            due("hour 2", x.get(form, form, 2), 1);
            due("hour 39", x.get(form, form, 39), 1);
            due("item 40 is as it was", x.get(form, form, 40), 99);
            due("write of the other one", x.write(1, form), 40);
            due("it is tired at b from hour 0 on", x.get(form, form, 0), 1);
        }
        x.late(1, 2);
        x.sheet(3, 0, 3);
        due("write, three", x.write(1, 3), 3);
        due("away", x.get(3, 0, 1), -1);
        due("there", x.get(3, 0, 2), 1);
        x.sheet(3, 0, 0);
        due("write, none", x.write(1, 3), 0);
    }

    private static void counting() {
        QuestionRoad x = Checks.road("ab1f;bc1f", "aco990;aao000;aho000");
        x.answer(9, 0);
        x.answer(9, 1);
        x.seen(0, 0, 0);
        x.lose(0);
        int[] want = {2, 3, 9, 20, 2, 2, 5, 1, 1};
        for (int what = 0; what < 9; what++) {
            due("count(" + what + ")", x.count(what), want[what]);
        }
        due("count(-1)", x.count(-1), -2);
        due("count(9)", x.count(9), -2);
        due("count(least)", x.count(LEAST), -2);
        finding(x, 1);
    }
}
