import java.util.Random;

/** Promises 1 to 37: runs of calls by a fixed seed, each answer held against the plain Model. */
public final class RandomTest {
    private static final int RUNS = 300;
    // An object is used for 512 calls: so many, one more of them (or a text typed anew), and the digest.
    private static final int MOST_CALLS = 440;
    private final Random random;
    private final QuestionRoad x = new QuestionRoad();
    private final Model m = new Model();
    private final int run;
    private int places = 8;
    private int calls = 0;

    private RandomTest(int run) {
        this.run = run;
        random = new Random(7919L * run + 3);
        places = 3 + random.nextInt(6);
    }

    public static void main(String[] args) {
        for (int run = 0; run < RUNS; run++) {
            new RandomTest(run).play();
        }
        Checks.end("RandomTest");
    }

    private void play() {
        if (run % 8 != 0) {
            typeWays();
            typeCarters();
            for (int c = 0; c < 8; c++) {
                if (random.nextInt(3) == 0) {
                    due("late", x.late(c, c), m.late(c, c));
                }
            }
        }
        for (int n = random.nextInt(9); n > 0; n--) {
            answer();
        }
        while (calls < MOST_CALLS) {
            if (random.nextInt(12) == 0) {
                retype();
            } else {
                call(random.nextInt(37));
            }
        }
        due("digest()", x.digest(), m.digest());
        Checks.dueTrue("run " + run + ": 512 calls at most", calls <= 512);
    }

    private void due(String call, long got, long want) {
        calls++;
        Checks.due("run " + run + ": " + call, got, want);
    }

    private int number(int bound) {
        return random.nextInt(40) == 0 ? new int[] {-1, bound, 1 << 31, -1 >>> 1}[random.nextInt(4)] : random.nextInt(bound);
    }

    private void typeSign(int text, int b) {
        due("type(" + text + ", " + b + ")", x.type(text, b), m.type(text, b));
    }

    private void typeSigns(int text, String signs) {
        for (int i = 0; i < signs.length(); i++) {
            typeSign(text, signs.charAt(i));
        }
    }

    private char place() {
        return (char) ('a' + random.nextInt(places));
    }

    private String way() {
        char a = place();
        char b = place();
        while (a == b) {
            b = place();
        }
        int length = random.nextInt(2) == 0 ? 1 + random.nextInt(9) : 1 + random.nextInt(3);
        return "" + a + b + length + "udf".charAt(random.nextInt(3));
    }

    private String carter() {
        int strength = random.nextInt(100);
        int load = random.nextInt(2) == 0 ? 0 : random.nextInt(10);
        return "" + place() + place() + "ocr".charAt(random.nextInt(3)) + strength / 10 + strength % 10 + load;
    }

    private void typeWays() {
        int n = random.nextInt(11);
        for (int i = 0; i < n; i++) {
            typeSigns(0, i == 0 ? way() : ";" + way());
        }
    }

    private void typeCarters() {
        int n = random.nextInt(9);
        for (int i = 0; i < n; i++) {
            typeSigns(1, i == 0 ? carter() : ";" + carter());
        }
    }

    private void retype() {
        int text = random.nextInt(2);
        switch (random.nextInt(4)) {
            case 0:
                due("wipe", x.wipe(text), m.wipe(text));
                if (text == 0) {
                    typeWays();
                } else {
                    typeCarters();
                }
                break;
            case 1:
                for (int i = 0; i < 5 + 2 * text; i++) {
                    due("undo", x.undo(text), m.undo(text));
                }
                break;
            case 2:
                typeSigns(text, (m.count(2 + text) == 0 ? "" : ";") + (text == 0 ? way() : carter()));
                break;
            default:
                typeSign(text, "abch;019udfocrix".charAt(random.nextInt(16)));
                due("fault", x.fault(text), m.fault(text));
                if (random.nextInt(3) != 0) {
                    due("undo", x.undo(text), m.undo(text));
                }
                break;
        }
    }

    private void answer() {
        int hour = random.nextInt(2) == 0 ? random.nextInt(10) : number(40);
        int p = random.nextInt(2) == 0 ? place() - 'a' : number(8);
        due("answer(" + hour + ", " + p + ")", x.answer(hour, p), m.answer(hour, p));
    }

    private void see() {
        int hour = number(40);
        int c = number(8);
        int p = number(9);
        if (random.nextInt(4) != 0 && m.at(hour, c, 0) >= 0) {
            // Mostly what is really seen, so that something can fit.
            int stays = m.at(hour, c, 1);
            p = stays == -1 ? 8 : stays;
        }
        due("seen(" + hour + ", " + c + ", " + p + ")", x.seen(hour, c, p), m.seen(hour, c, p));
    }

    private void call(int which) {
        int c = number(8);
        int s = number(4);
        int form = number(3);
        int i = number(random.nextInt(2) == 0 ? 5 : 61);
        int j = number(random.nextInt(2) == 0 ? 5 : 61);
        int n = number(random.nextInt(2) == 0 ? 5 : 61);
        int h = number(40);
        int p = number(8);
        int w = number(4);
        int v = random.nextInt(2) == 0 ? random.nextInt(40) : random.nextInt();
        switch (which) {
            case 0: typeSign(number(2), number(256)); due("undo", x.undo(0), m.undo(0)); break;
            case 1: due("fault(" + w + ")", x.fault(w), m.fault(w)); break;
            case 2: due("way(" + p + ", " + w + ")", x.way(p, w), m.way(p, w)); break;
            case 3: due("carter(" + c + ", " + w + ")", x.carter(c, w), m.carter(c, w)); break;
            case 4: int l = number(10); due("late(" + c + ", " + l + ")", x.late(c, l), m.late(c, l)); break;
            case 5: answer(); break;
            case 6: due("back()", x.back(), m.back()); break;
            case 7: due("read(" + s + ")", x.read(s), m.read(s)); break;
            case 8: due("at(" + h + ", " + c + ", " + w + ")", x.at(h, c, w), m.at(h, c, w)); break;
            case 9: due("ends(" + c + ")", x.ends(c), m.ends(c)); break;
            case 10: due("far(" + p + ", " + c + ")", x.far(p, c), m.far(p, c)); break;
            case 11: int is = 1 + number(6); due("who(" + is + ")", x.who(is), m.who(is)); break;
            case 12: int two = number(2); due("met(" + two + ")", x.met(two), m.met(two)); break;
            case 13: due("busiest()", x.busiest(), m.busiest()); break;
            case 14: due("needs(" + c + ")", x.needs(c), m.needs(c)); break;
            case 15: due("lend(" + w + ")", x.lend(w), m.lend(w)); break;
            case 16: due("delay(" + c + ", " + w % 3 + ")", x.delay(c, w % 3), m.delay(c, w % 3)); break;
            case 17: due("level(" + w + ")", x.level(w), m.level(w)); break;
            case 18: see(); break;
            case 19: if (random.nextInt(4) == 0) { due("forget()", x.forget(), m.forget()); } break;
            case 20: due("never()", x.never(), m.never()); break;
            case 21: due("sort(" + c + ")", x.sort(c), m.sort(c)); break;
            case 22: due("force(" + c + ", " + w + ")", x.force(c, w), m.force(c, w)); break;
            case 23: due("ask(" + c + ")", x.ask(c), m.ask(c)); break;
            case 24: rumour(c); break;
            case 25: due("market(" + v + ", " + w + ")", x.market(v, w), m.market(v, w)); break;
            case 26: due("sheet(" + s + ", " + form + ", " + n + ")", x.sheet(s, form, n), m.sheet(s, form, n)); break;
            case 27: if (random.nextInt(4) == 0) { due("lose(" + s + ")", x.lose(s), m.lose(s)); } break;
            case 28:
            case 29: due("lay(" + s + ", " + form + ", " + i + ", " + v + ")", x.lay(s, form, i, v), m.lay(s, form, i, v)); break;
            case 30:
            case 31: due("get(" + s + ", " + form + ", " + i + ")", x.get(s, form, i), m.get(s, form, i)); break;
            case 32:
            case 33: due("copy", x.copy(s, i, w, j, n), m.copy(s, i, w, j, n)); break;
            case 34: due("write(" + c + ", " + s + ")", x.write(c, s), m.write(c, s)); break;
            default: int k = number(9); due("count(" + k + ")", x.count(k), m.count(k)); break;
        }
        due("count(8)", x.count(8), m.count(8));
    }

    private void rumour(int c) {
        int sixteenths = number(17);
        int what = number(2);
        due("rumour(" + sixteenths + ", " + c + ", " + what + ")", x.rumour(sixteenths, c, what), m.rumour(sixteenths, c, what));
    }
}
