import java.util.ArrayList;
import java.util.List;

/** Promise 37: the digest, by hand for a new object, and by the face's own answers. */
public final class DigestTest {
    public static void main(String[] args) {
        Checks.due("digest of a new object", new QuestionRoad().digest(), fold(newObject()));
        same("full texts", texts());
        same("eight answers", answers());
        same("late", late());
        same("eight seen", seen());
        refusalsChangeNothing(seen());
        sheetsAreNoPartOfIt(seen());
        QuestionRoad x = seen();
        x.undo(1);
        same("a faulty text", x);
        x = seen();
        x.wipe(0);
        same("no ways", x);
        same("each hour", eachHour());
        Checks.end("DigestTest");
    }

    private static QuestionRoad texts() {
        return Checks.road("ab1f;bc2u;cd1d;da9f;ae1f;ef1u;fg1d;gh1f;ha2f;bh1u",
            "adc300;dac504;ber203;eco120;afo991;aar000;hdo609;gbr454");
    }

    private static QuestionRoad answers() {
        QuestionRoad x = texts();
        int[][] answers = {{0, 0}, {2, 1}, {6, 2}, {3, 4}, {39, 7}, {10, 3}, {1, 0}, {2, 1}};
        for (int[] a : answers) {
            x.answer(a[0], a[1]);
        }
        return x;
    }

    private static QuestionRoad late() {
        QuestionRoad x = answers();
        x.late(0, 1);
        x.late(6, 9);
        return x;
    }

    private static QuestionRoad seen() {
        QuestionRoad x = late();
        for (int n = 0; n < 8; n++) {
            x.seen(5 * n, n, n == 5 ? 0 : 8);
        }
        return x;
    }

    /** Behind HOURS 0, 5, 15, 39 it is otherwise than an HOUR earlier or later, by SEED 7 than by 6 and 8. */
    private static QuestionRoad eachHour() {
        QuestionRoad x = Checks.road("ab5d;bc5d;cd5d;de5d;ef5d;fg5d;gh5d",
            "abr990;acr990;adr990;aer990;ahr990;ahr990;ahr990;ahr990");
        for (int c = 0; c < 8; c++) {
            x.late(c, c);
        }
        return x;
    }

    /** All in less than 512 calls, for which an object is used. */
    private static void same(String name, QuestionRoad x) {
        long digest = x.digest();
        Checks.due("digest, " + name, digest, fold(byTheFace(x)));
        Checks.due("digest again, " + name, x.digest(), digest);
    }

    private static long fold(List<Long> all) {
        long h = 17;
        for (long v : all) {
            h = 31 * h + v;
        }
        return h;
    }

    private static void add(List<Long> all, long... values) {
        for (long v : values) {
            all.add(v);
        }
    }

    private static List<Long> newObject() {
        List<Long> all = new ArrayList<>();
        add(all, 0, 0, 0, 0, 0, 0, 0, 0, -1, -1);
        add(all, 0, -1, -1, -1, -1, -1, -1, 0, -1, -1, -1, -1, -1, -1, -1, -1);
        add(all, 0, 0, 0, 0, -1, -1, -1, -1, -1, -1, -1, -1, 0, 0, 0);
        return all;
    }

    private static List<Long> byTheFace(QuestionRoad x) {
        List<Long> all = new ArrayList<>();
        for (int what = 0; what < 8; what++) {
            add(all, x.count(what));
        }
        add(all, x.fault(0), x.fault(1));
        for (int w = 0; w < x.count(0); w++) {
            add(all, x.way(w, 0), x.way(w, 1), x.way(w, 2), x.way(w, 3));
        }
        for (int p = 0; p < 8; p++) {
            add(all, x.far(0, p), x.far(p, 3));
        }
        for (int c = 0; c < x.count(1); c++) {
            add(all, x.carter(c, 0), x.carter(c, 1), x.carter(c, 2), x.carter(c, 3), x.carter(c, 4));
            for (int hour : new int[] {0, 5, 15, 39}) {
                add(all, x.at(hour, c, 0), x.at(hour, c, 1), x.at(hour, c, 2), x.at(hour, c, 3));
            }
            add(all, x.ends(c), x.needs(c), x.delay(c, 0), x.delay(c, 1), x.sort(c));
            add(all, x.force(c, 0), x.force(c, 1), x.force(c, 2), x.ask(c), x.rumour(5, c, 0), x.rumour(5, c, 1));
        }
        add(all, x.who(2), x.who(3), x.who(4), x.who(5), x.met(0), x.met(1), x.busiest());
        add(all, x.lend(0), x.lend(1), x.lend(2), x.level(0), x.level(1), x.never(), x.market(7, 0), x.market(7, 1));
        return all;
    }

    private static void refusalsChangeNothing(QuestionRoad x) {
        long before = x.digest();
        x.sheet(2, 0, 4);
        x.type(0, 'a');
        x.type(1, 256);
        x.wipe(2);
        x.undo(-1);
        x.late(0, 10);
        x.answer(0, 0);
        x.answer(-1, 0);
        x.read(0);
        x.read(5);
        x.seen(0, 0, 0);
        x.seen(0, 0, 9);
        x.lose(0);
        x.write(0, 0);
        x.sheet(0, 0, -1);
        x.copy(0, 0, 0, 0, 0);
        x.lay(2, 1, 0, 0);
        Checks.due("digest after refusals", x.digest(), before);
        Checks.due("item after refusals", x.get(2, 0, 0), 0);
    }

    private static void sheetsAreNoPartOfIt(QuestionRoad x) {
        long before = x.digest();
        x.sheet(0, 2, 60);
        x.lay(0, 2, 0, 5);
        x.write(0, 0);
        x.get(0, 0, 0);
        Checks.due("digest after sheets and findings", x.digest(), before);
        Checks.due("the finding stays", x.count(8), 3);
    }
}
