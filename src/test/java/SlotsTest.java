/** Promises 30 and 31: what is kept, and gone on from. */
public final class SlotsTest {
    private static final int UNKNOWN = -1, LATE = -3;
    private static final Due due = new Due();

    public static void main(String[] args) {
        keep();
        again();
        twoSlots();
        whatIsNotKept();
        due.end();
    }

    private static void keep() {
        MulesRemember x = new MulesRemember();
        due.is("keep ahead of a treaty", x.keep(0), 0);
        x.pause();
        due.is("keep(1)", x.keep(1), 1);
        due.is("keep(-1)", x.keep(-1), UNKNOWN);
        due.is("keep(2)", x.keep(2), UNKNOWN);
        due.is("acts stay", x.about(4), 1);
        due.is("undo", x.undo(), 0);
        due.is("again(0)", x.again(0), 0);
        due.is("again(1)", x.again(1), 1);
    }

    private static void again() {
        MulesRemember x = Due.withTreaty("MA520M402M401");
        due.is("again(0)", x.again(0), LATE);
        due.is("again(1)", x.again(1), LATE);
        due.is("again(-1)", x.again(-1), UNKNOWN);
        due.is("again(2)", x.again(2), UNKNOWN);
        x.show(0, 1, 0);
        x.sell(1);
        x.keep(0);
        due.is("again(1) when 0 is kept", x.again(1), LATE);
        x.forget(0);
        x.step(0, 1);
        x.step(1, 0);
        x.sell(0);
        x.pause();
        due.is("again(0)", x.again(0), 0);
        due.is("no acts", x.about(4), 0);
        due.is("undo", x.undo(), LATE);
        due.is("hour", x.about(2), 0);
        due.is("broken", x.about(3), 0);
        due.is("stone of 0", x.mule(0, 0), 4);
        due.is("stone of 1", x.mule(1, 0), 4);
        due.is("kind of 0", x.mule(0, 2), 2);
        due.is("kind of 1", x.mule(1, 2), 3);
        due.is("shown", x.mule(0, 3), 1);
        x.pause();
        due.is("acts anew", x.about(4), 1);
        due.is("undo", x.undo(), 0);
        x.pause();
        due.is("again, once more", x.again(0), 0);
    }

    private static void twoSlots() {
        MulesRemember x = Due.withTreaty("MA520M402");
        x.step(0, 1);
        due.is("keep(0)", x.keep(0), 1);
        x.step(0, 1);
        due.is("keep(1)", x.keep(1), 2);
        x.step(0, 1);
        due.is("again(0)", x.again(0), 1);
        due.is("stone", x.mule(0, 0), 5);
        due.is("broken", x.about(3), 1);
        due.is("again(1)", x.again(1), 2);
        due.is("stone", x.mule(0, 0), 6);
        x.pause();
        due.is("kept over", x.keep(0), 3);
        x.pause();
        due.is("again(0)", x.again(0), 3);
        due.is("again(1)", x.again(1), 2);
    }

    private static void whatIsNotKept() {
        MulesRemember x = Due.withTreaty("MM402");
        x.see(1, 1, 1, 1, 1);
        x.seed(5);
        x.keep(0);
        x.see(1, 1, 1, 1, 1);
        x.seed(6);
        x.write('M');
        x.again(0);
        due.is("seen", x.about(5), 2);
        due.is("seed", x.seed(0), 6);
        due.is("text", x.about(6), 6);
        due.is("a treaty with a fault", x.treaty(), LATE);
        due.is("it is kept still", x.again(0), 0);
        x.wipe();
        x.write('M');
        due.is("a treaty", x.treaty(), 0);
        due.is("what was kept is gone", x.again(0), LATE);
    }
}
