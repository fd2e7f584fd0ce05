/** Promises 18 to 21: NEEDS, LEND, WAIT, LEVEL. */
public final class PlansTest {
    public static void main(String[] args) {
        needs();
        lend();
        delay();
        level();
        Checks.end("PlansTest");
    }

    private static void due(String call, long got, long want) {
        Checks.due(call, got, want);
    }

    private static void needs() {
        QuestionRoad x = Checks.road("ab2u;bc1f", "aco001;aco991;aao009;ado990");
        due("needs of a tired one", x.needs(0), 10);
        due("needs of one that comes", x.needs(1), 10);
        due("needs at its GOAL", x.needs(2), 0);
        due("needs of a lost one", x.needs(3), -1);
        due("needs(4)", x.needs(4), -2);
        due("needs(-1)", x.needs(-1), -2);
        due("its own stays", x.carter(0, 3), 0);
        due("its own end stays", x.at(39, 0, 0), 4);
        x.answer(6, 1);
        due("one that is told comes by none", x.needs(1), -1);
        // Seven WAYS, LOAD 9: 36 HOURS and 63 besides.
        x = Checks.road("ab3f;bc3f;cd3f;de3f;ef2f;fg2f;gh2f", "ahr009");
        due("the greatest that there is", x.needs(0), 99);
        x = Checks.road("ab4f;bc3f;cd3f;de3f;ef2f;fg2f;gh2f", "ahr009");
        due("above 99", x.needs(0), -1);
        x = Checks.road("ab9u;bc9u", "acr990");
        due("too far", x.needs(0), -1);
        x = Checks.road("ab1f;bc5f", "acc000;bbr000");
        due("a common one is told at b", x.needs(0), -1);
    }

    private static void lend() {
        QuestionRoad x = Checks.road("ab1f", "");
        due("lend of none", x.lend(0), -1);
        Checks.put(x, 1, "abo990");
        due("lend of one, first", x.lend(0), -1);
        due("lend of one, other", x.lend(1), -1);
        due("lend of one, how many", x.lend(2), -1);
        due("lend(-1)", x.lend(-1), -2);
        due("lend(3)", x.lend(3), -2);
        Checks.put(x, 1, "aao000;abo500;abo029");
        due("first", x.lend(0), 1);
        due("other", x.lend(1), 2);
        due("all three come", x.lend(2), 3);
        due("two come without", x.count(5), 2);
        Checks.put(x, 1, "abr990;bar990;aar990");
        due("of like ones the least, first", x.lend(0), 0);
        due("of like ones the least, other", x.lend(1), 1);
        // The only two: it is told even where it is no better, or worse.
        Checks.put(x, 1, "abr110;abr009");
        due("no better, first", x.lend(0), 0);
        due("no better, how many", x.lend(2), 1);
        Checks.put(x, 1, "abr110;abr029;bbr000");
        due("0 and 1 lend", x.lend(1), 1);
        due("all come", x.lend(2), 3);
        Checks.put(x, 1, "abr020;abr119");
        due("worse", x.lend(2), 1);
        due("without", x.count(5), 2);
        // The sort goes with the STRENGTH, LATE and LOAD do not.
        Checks.put(x, 1, "abo990;bbr000");
        x.answer(0, 0);
        due("told", x.count(5), 1);
        due("a riddle of strength 0 tires", x.lend(2), 1);
        Checks.put(x, 1, "abo990;bbr020");
        due("a riddle of strength 2 comes", x.lend(2), 2);
        x.late(0, 1);
        due("by its LATE it is not told", x.lend(2), 2);
        x.late(0, 0);
        // Each has the other's sort: the riddle's owner is told in place of the first.
        Checks.put(x, 1, "abo990;abr990;bbr000");
        due("the open one is told", x.who(3), 1);
        due("one of them is told all the same", x.lend(2), 2);
        due("of like ones the least again, first", x.lend(0), 0);
        due("of like ones the least again, other", x.lend(1), 1);
        Checks.put(x, 1, "abo990");
        due("first, of one again", x.lend(0), -1);
        due("other, of one again", x.lend(1), -1);
        due("how many, of one again", x.lend(2), -1);
    }

    private static void delay() {
        QuestionRoad x = Checks.road("ab1f", "abo020;aar000");
        due("by 0 at once", x.delay(0, 0), 0);
        due("all come", x.delay(0, 1), 2);
        x.answer(0, 0);
        x.answer(1, 0);
        due("by 2", x.delay(0, 0), 2);
        due("all come by 2", x.delay(0, 1), 2);
        x.late(0, 5);
        due("in place of its own", x.delay(0, 0), 2);
        due("its own stays", x.late(0, 5), 5);
        for (int hour = 2; hour < 8; hour++) {
            x.answer(hour, 0);
        }
        due("by 8", x.delay(0, 0), 8);
        due("for another all is like", x.delay(1, 0), 0);
        due("how many by that", x.delay(1, 1), 1);
        due("delay(2, 0)", x.delay(2, 0), -2);
        due("delay(-1, 0)", x.delay(-1, 0), -2);
        due("delay(0, 2)", x.delay(0, 2), -2);
        due("delay(0, -1)", x.delay(0, -1), -2);
        x = Checks.road("ab9u;bc5f", "acr990");
        due("ten too late", x.delay(0, 0), 0);
        x = Checks.road("ab1u", "abc990;bar990");
        // It is told if it comes to b, or is at a, with the other one there.
        due("one passes the other", x.delay(0, 1), 2);
        x = Checks.road("ab9f;bc6u", "acr990");
        due("36 hours, three late at most", x.delay(0, 1), 1);
    }

    private static void level() {
        QuestionRoad x = Checks.road("", "abo990");
        due("no ways", x.level(0), -1);
        due("no ways, how many", x.level(1), -1);
        due("level(-1)", x.level(-1), -2);
        due("level(2)", x.level(2), -2);
        x = Checks.road("ab1u;bc9u", "aco250");
        due("the other way", x.level(0), 1);
        due("it comes", x.level(1), 1);
        due("it does not without", x.count(5), 0);
        due("it is as it was", x.way(1, 3), 0);
        due("it is as far as it was", x.far(1, 2), 27);
        Checks.put(x, 1, "aco990");
        due("of like ones the least", x.level(0), 0);
        Checks.put(x, 1, "");
        due("without carters", x.level(0), 0);
        due("none come", x.level(1), 0);
        Checks.put(x, 1, "aco990");
        due("a plan before", x.delay(0, 0), 0);
        Checks.put(x, 0, "");
        due("no ways again", x.level(0), -1);
        due("no ways again, how many", x.level(1), -1);
        // Flat is worse than down.
        x = Checks.road("ab2d;bc1f", "abo020");
        due("the flat one had better be flat", x.level(0), 1);
        due("for it still comes", x.level(1), 1);
        x = Checks.road("ab2d", "abo020");
        due("the only one", x.level(0), 0);
        due("it tires by that", x.level(1), 0);
        due("it comes without", x.count(5), 1);
    }
}
