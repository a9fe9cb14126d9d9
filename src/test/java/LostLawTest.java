/** Promises 23 to 25: what is seen of old mules, and which article it may be. */
public final class LostLawTest {
    private static final int UNKNOWN = -1, BAD = -2, FULL = -4, NONE = -9;
    private static final Due due = new Due();

    public static void main(String[] args) {
        see();
        seeRefusals();
        unsee();
        may();
        mayBySort();
        mayRefusals();
        due.end();
    }

    private static void see() {
        MulesRemember x = new MulesRemember();
        due.is("see 1", x.see(0, 0, 0, 0, 0), 1);
        due.is("see 2", x.see(9, 3, 9, 1, 1), 2);
        due.is("see 3, as 2", x.see(9, 3, 9, 1, 1), 3);
        due.is("see 4, the contrary", x.see(9, 3, 9, 1, 0), 4);
        due.is("see 5", x.see(5, 1, 2, 1, 0), 5);
        due.is("see 6", x.see(5, 1, 2, 0, 1), 6);
        due.is("see 7", x.see(5, 1, 2, 0, 1), FULL);
        due.is("about(5)", x.about(5), 6);
        due.is("acts", x.about(4), 0);
        due.is("BAD ahead of FULL", x.see(5, 4, 2, 0, 1), BAD);
        due.is("UNKNOWN ahead of FULL", x.see(10, 1, 2, 0, 1), UNKNOWN);
        due.is("unsee", x.unsee(), 6);
    }

    private static void seeRefusals() {
        MulesRemember x = new MulesRemember();
        due.is("stone", x.see(-1, 0, 0, 0, 0), UNKNOWN);
        due.is("stone", x.see(10, 0, 0, 0, 0), UNKNOWN);
        due.is("stone, and all else", x.see(10, 4, 10, 2, 2), UNKNOWN);
        due.is("coat", x.see(0, -1, 0, 0, 0), BAD);
        due.is("coat", x.see(0, 4, 0, 0, 0), BAD);
        due.is("hour", x.see(0, 0, -1, 0, 0), BAD);
        due.is("hour", x.see(0, 0, 10, 0, 0), BAD);
        due.is("south", x.see(0, 0, 0, -1, 0), BAD);
        due.is("south", x.see(0, 0, 0, 2, 0), BAD);
        due.is("balked", x.see(0, 0, 0, 0, -1), BAD);
        due.is("balked", x.see(0, 0, 0, 0, 2), BAD);
        due.is("about(5)", x.about(5), 0);
        due.is("may", x.may(0, 0), 30);
    }

    private static void unsee() {
        MulesRemember x = new MulesRemember();
        due.is("none", x.unsee(), 0);
        x.see(3, 1, 4, 1, 1);
        x.see(3, 1, 4, 1, 0);
        due.is("two", x.unsee(), 2);
        due.is("none", x.unsee(), 0);
        due.is("about(5)", x.about(5), 0);
        due.is("may", x.may(3, 0), 30);
        due.is("see", x.see(4, 0, 0, 0, 0), 1);
    }

    private static void mayIs(MulesRemember x, int stone, int count, int first) {
        due.is("may(" + stone + ", 0)", x.may(stone, 0), count);
        due.is("may(" + stone + ", 1)", x.may(stone, 1), first);
    }

    private static void may() {
        MulesRemember x = new MulesRemember();
        mayIs(x, 0, 30, 0);
        mayIs(x, 9, 30, 0);
        x.see(3, 1, 4, 1, 1);
        mayIs(x, 3, 3 + 5 + 5, 1);
        x.see(4, 0, 9, 0, 1);
        mayIs(x, 4, 3 + 0 + 5, 0);
        x.see(4, 0, 9, 1, 0);
        mayIs(x, 4, 0 + 0 + 5, 21);
        x.see(5, 3, 0, 1, 0);
        mayIs(x, 5, 8 + 1 + 5, 0);
        x.see(7, 0, 0, 1, 1);
        x.see(7, 0, 0, 1, 0);
        mayIs(x, 7, 0, NONE);
        mayIs(x, 8, 30, 0);
        mayIs(x, 3, 13, 1);
    }

    private static void mayBySort() {
        MulesRemember hour = new MulesRemember();
        hour.see(6, 0, 3, 1, 1);
        hour.see(6, 0, 4, 1, 0);
        mayIs(hour, 6, 1, 14);
        MulesRemember way = new MulesRemember();
        way.see(6, 2, 5, 1, 1);
        way.see(6, 2, 5, 0, 0);
        mayIs(way, 6, 5, 20);
        MulesRemember coat = new MulesRemember();
        coat.see(6, 3, 5, 1, 1);
        coat.see(6, 2, 5, 1, 0);
        mayIs(coat, 6, 2, 3);
        coat.see(6, 0, 0, 0, 0);
        mayIs(coat, 6, 2, 3);
        coat.see(6, 3, 9, 0, 0);
        mayIs(coat, 6, 0, NONE);
    }

    private static void mayRefusals() {
        MulesRemember x = Due.withTreaty("MA000M001");
        due.is("stone", x.may(-1, 0), UNKNOWN);
        due.is("stone", x.may(10, 0), UNKNOWN);
        due.is("stone, and what", x.may(10, 2), UNKNOWN);
        due.is("what", x.may(0, -1), BAD);
        due.is("what", x.may(0, 2), BAD);
        due.is("the treaty does not matter", x.may(0, 0), 30);
    }
}
