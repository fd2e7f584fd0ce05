import java.util.ArrayList;
import java.util.List;
import java.util.function.Supplier;

/** Objects made alike: one of them is refused a call, and must show all that the other one shows. */
final class Twins {
    static final List<Supplier<QuestionRoad>> ALL = List.of(Twins::empty, Twins::one, Twins::faulty, Twins::full);

    private Twins() {
    }

    static QuestionRoad empty() {
        return new QuestionRoad();
    }

    static QuestionRoad one() {
        QuestionRoad x = Checks.road("ab1u", "abo501");
        x.late(0, 3);
        x.answer(3, 1);
        x.seen(5, 0, 8);
        x.sheet(0, 1, 2);
        x.lay(0, 1, 1, 77);
        return x;
    }

    static QuestionRoad faulty() {
        QuestionRoad x = Checks.road("ab1u;bc1", "abo501;abo501;");
        x.answer(0, 0);
        return x;
    }

    /** No room for a byte, an ANSWER, a SEEN; SHEETS of each FORM, the last LOST; the latest FINDING is SIZE. */
    static QuestionRoad full() {
        QuestionRoad x = Checks.road("ab1f;bc2u;cd1d;da9f;ae1f;ef1u;fg1d;gh1f;ha2f;bh1u",
            "adc300;dac504;ber203;eco120;afo991;aar000;hdo609;gbr454");
        for (int n = 0; n < 8; n++) {
            x.late(n, n % 3);
            x.answer(n, n);
            x.seen(5 * n, n, n == 5 ? 0 : 8);
        }
        x.sheet(3, 0, -1);
        for (int s = 0; s < 3; s++) {
            x.sheet(s, s, 3 + s);
            x.lay(s, s, 0, 10 * s + 1);
            x.lay(s, s, 2 + s, 10 * s + 2);
        }
        return x;
    }

    static void refused(Supplier<QuestionRoad> made, long want, int finding, String name, int... args) {
        QuestionRoad x = made.get();
        QuestionRoad twin = made.get();
        Face.due(x, want, name, args);
        String behind = " behind " + Face.shown(name, args);
        Checks.due("count(8)" + behind, x.count(8), finding == 0 ? twin.count(8) : finding);
        alike("nothing has changed" + behind, x, twin);
    }

    /** Takes both apart, down to a new object. */
    static void alike(String what, QuestionRoad x, QuestionRoad twin) {
        List<Long> shown = allThatShows(x);
        List<Long> want = allThatShows(twin);
        Checks.dueTrue(what + ": " + shown + " as " + want, shown.equals(want));
    }

    /** All but count(8), in fewer calls than are left of the 512 that an object is used for. */
    private static List<Long> allThatShows(QuestionRoad x) {
        List<Long> all = new ArrayList<>();
        for (int what = 0; what < 8; what++) {
            all.add((long) x.count(what));
        }
        all.add(x.digest());
        showSheets(x, all);
        showAnswersAndSeen(x, all);
        for (int c = 0; c < 8; c++) {
            all.add((long) x.late(c, 0));
        }
        for (int text = 0; text < 2; text++) {
            for (int left = x.count(2 + text); left > 0; left--) {
                all.add((long) x.fault(text));
                all.add((long) x.undo(text));
            }
        }
        return all;
    }

    private static void showSheets(QuestionRoad x, List<Long> all) {
        for (int s = 0; s < 4; s++) {
            for (int form = 0; form < 3; form++) {
                for (int i = 0; i < 6; i++) {
                    all.add((long) x.get(s, form, i));
                }
            }
            all.add((long) x.lose(s));
        }
    }

    private static void showAnswersAndSeen(QuestionRoad x, List<Long> all) {
        for (int n = x.count(4); n > 0; n--) {
            all.add((long) x.back());
            all.add((long) x.who(3));
            all.add((long) x.never());
        }
        all.add((long) x.forget());
        all.add(x.digest());
    }
}
