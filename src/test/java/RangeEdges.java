import java.util.ArrayList;
import java.util.Arrays;
import java.util.List;
import java.util.function.Supplier;

/** Each number of each call: the least and the greatest that may be, and those beyond, which are BAD. */
final class RangeEdges {
    /** The promise, the call, its numbers: C the last CARTER, W the last WAY, * any; no least: what is below is not BAD. */
    private static final String[] CALLS = {
        "2 type 0..1 0..255", "3 wipe 0..1", "4 undo 0..1", "5 fault 0..1", "6 way 0..W 0..3", "7 carter 0..C 0..4",
        "8 late 0..7 0..9", "9 answer 0..39 0..7", "11 read 0..3", "12 at 0..39 0..C 0..3", "13 ends 0..C",
        "14 far 0..7 0..7", "15 who 2..5", "16 met 0..1", "18 needs 0..C", "19 lend 0..2", "20 delay 0..C 0..1",
        "21 level 0..1", "22 seen 0..39 0..7 0..8", "25 sort 0..C", "26 force 0..C 0..2", "27 ask 0..C",
        "28 rumour 0..16 0..C 0..1", "29 market * 0..1", "30 sheet 0..3 0..2 ..60", "31 lose 0..3", "32 lay 0..3 0..2 * *",
        "33 get 0..3 0..2 *", "34 copy 0..3 * 0..3 * *", "35 write 0..C 0..3", "36 count 0..8"};
    private static final int[] ANY = {0, -1, Integer.MIN_VALUE, Integer.MAX_VALUE};
    private final Supplier<QuestionRoad> made;
    private final int promise;
    private final String name;
    private final String[] ranges;
    private final int lastWay;
    private final int lastCarter;

    private RangeEdges(Supplier<QuestionRoad> made, String call) {
        this.made = made;
        String[] words = call.split(" ");
        promise = Integer.parseInt(words[0]);
        name = words[1];
        ranges = Arrays.copyOfRange(words, 2, words.length);
        lastWay = made.get().count(0) - 1;
        lastCarter = made.get().count(1) - 1;
    }

    static void all() {
        for (Supplier<QuestionRoad> made : Twins.ALL) {
            for (String call : CALLS) {
                RangeEdges edges = new RangeEdges(made, call);
                Sentences.promise(edges.promise, "BAD");
                edges.mayBe(new int[edges.ranges.length], 0);
                edges.areBad();
            }
        }
    }

    private int bound(String word) {
        return word.equals("C") ? lastCarter : word.equals("W") ? lastWay : Integer.parseInt(word);
    }

    /** The edges of those that may be; none if there is no such thing. */
    private int[] good(int i) {
        if (ranges[i].equals("*")) {
            return ANY;
        }
        String[] ends = ranges[i].split("\\.\\.");
        int greatest = bound(ends[1]);
        int[] both = {ends[0].isEmpty() ? -1 : bound(ends[0]), greatest};
        return greatest < 0 ? new int[0] : both;
    }

    private List<Integer> bad(int i) {
        List<Integer> all = new ArrayList<>();
        if (!ranges[i].equals("*")) {
            String[] ends = ranges[i].split("\\.\\.");
            all.add(bound(ends[1]) + 1);
            all.add(Integer.MAX_VALUE);
            if (!ends[0].isEmpty()) {
                all.add(bound(ends[0]) - 1);
                all.add(Integer.MIN_VALUE);
            }
        }
        return all;
    }

    private boolean isBad(int... args) {
        QuestionRoad x = made.get();
        int before = x.count(8);
        long answer = Face.call(x, name, args);
        if (name.equals("get")) {
            return answer == Integer.MIN_VALUE && x.count(8) == before;
        }
        return answer == badAnswer();
    }

    private long badAnswer() {
        return name.equals("rumour") ? Long.MIN_VALUE + 2 : name.equals("get") ? Integer.MIN_VALUE : -2;
    }

    /** All rows of edges that may be, from number i on. */
    private void mayBe(int[] args, int i) {
        if (i == args.length) {
            Checks.dueTrue("not BAD: " + Face.shown(name, args), !isBad(args));
            return;
        }
        for (int v : good(i)) {
            args[i] = v;
            mayBe(args, i + 1);
        }
    }

    private void areBad() {
        for (int i = 0; i < ranges.length; i++) {
            for (int v : bad(i)) {
                for (int turn = 0; turn < 2; turn++) {
                    int[] args = others(turn);
                    args[i] = v;
                    Twins.refused(made, badAnswer(), 0, name, args);
                }
            }
        }
    }

    private int[] others(int turn) {
        int[] args = new int[ranges.length];
        for (int i = 0; i < args.length; i++) {
            int[] edges = good(i);
            args[i] = edges.length == 0 ? turn : edges[turn * (edges.length - 1)];
        }
        return args;
    }
}
