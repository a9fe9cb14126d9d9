/** Promises 30 and 31 at their bounds: two slots, none kept, what is kept and what is not. */
public final class SlotEdgesTest {
    private static final int UNKNOWN = -1, LATE = -3;
    private static final int[] NO_SLOTS = {-1, 2, 32, Integer.MIN_VALUE, Integer.MAX_VALUE};
    private static final Due due = new Due();

    public static void main(String[] args) {
        keepUnknown();
        keepOfNothing();
        keepIsNoAct();
        keepOver();
        keepIsACopy();
        againUnknown();
        againLate();
        againAllIsKept();
        againNoActs();
        againTwice();
        againOfTheOther();
        againLeavesTheRest();
        due.end();
    }

    // ---- promise 30

    private static void keepUnknown() {
        due.of("30 UNKNOWN: there is no such SLOT");
        MulesRemember x = Due.withTreaty("MM402");
        x.pause();
        for (int slot : NO_SLOTS) {
            due.is("keep(" + slot + ")", x.keep(slot), UNKNOWN);
        }
        due.of("30 what is refused keeps nothing");
        due.is("again(0)", x.again(0), LATE);
        due.is("again(1)", x.again(1), LATE);
        due.of("30 SLOTS 0 .. 1: THE HOUR");
        due.is("keep(0)", x.keep(0), 1);
        due.is("keep(1)", x.keep(1), 1);
    }

    private static void keepOfNothing() {
        due.of("30 They are kept, though there are none: THE HOUR 0");
        MulesRemember x = new MulesRemember();
        due.is("keep(0)", x.keep(0), 0);
        x.pause();
        due.is("again(0)", x.again(0), 0);
        due.is("about(2)", x.about(2), 0);
        due.of("30 THE HOUR beyond 10");
        Due.pauses(x, 23);
        due.is("keep(1)", x.keep(1), 23);
        due.is("again(0)", x.again(0), 0);
        due.is("again(1)", x.again(1), 23);
    }

    private static void keepIsNoAct() {
        due.of("30 kept is no act");
        MulesRemember x = Due.withTreaty("MM402");
        x.keep(0);
        due.is("about(4)", x.about(4), 0);
        due.is("undo()", x.undo(), LATE);
        Due.pauses(x, 14);
        x.keep(1);
        due.is("about(4)", x.about(4), 14);
        for (int left = 13; left >= 0; left--) {
            due.is("undo()", x.undo(), left);
        }
        due.is("about(2)", x.about(2), 0);
        due.of("31 what was kept stays when acts are undone");
        due.is("again(1)", x.again(1), 14);
    }

    private static void keepOver() {
        due.of("30 kept anew in the same SLOT");
        MulesRemember x = Due.withTreaty("MM402");
        x.keep(0);
        x.step(0, 1);
        due.is("keep(0)", x.keep(0), 1);
        x.step(0, 1);
        due.is("again(0)", x.again(0), 1);
        due.is("mule(0, 0)", x.mule(0, 0), 5);
    }

    private static void keepIsACopy() {
        due.of("31 as they were kept, whatever came behind it");
        MulesRemember x = Due.withTreaty("MM402");
        x.keep(0);
        x.step(0, 1);
        x.undo();
        x.step(0, 0);
        x.sell(0);
        due.is("again(0)", x.again(0), 0);
        due.is("mule(0, 0)", x.mule(0, 0), 4);
        due.is("mule(0, 2)", x.mule(0, 2), 2);
        x.step(0, 1);
        x.years(30);
        x.judge(4, 10106000);
        due.is("again(0)", x.again(0), 0);
        due.is("mule(0, 0)", x.mule(0, 0), 4);
        due.is("mule(0, 2)", x.mule(0, 2), 2);
    }

    // ---- promise 31

    private static void againUnknown() {
        due.of("31 UNKNOWN: there is no such SLOT");
        MulesRemember x = Due.withTreaty("MM402");
        x.keep(0);
        x.keep(1);
        x.pause();
        for (int slot : NO_SLOTS) {
            due.is("again(" + slot + ")", x.again(slot), UNKNOWN);
        }
        due.of("31 what is refused changes nothing");
        due.is("about(2)", x.about(2), 1);
        due.is("about(4)", x.about(4), 1);
        due.of("31 UNKNOWN is told ahead of LATE");
        for (int slot : NO_SLOTS) {
            due.is("new: again(" + slot + ")", new MulesRemember().again(slot), UNKNOWN);
        }
    }

    private static void againLate() {
        for (int slot = 0; slot <= 1; slot++) {
            due.of("31 LATE: none were kept, but in the other SLOT than " + slot);
            MulesRemember x = Due.withTreaty("MM402");
            x.keep(1 - slot);
            x.pause();
            due.is("again(" + slot + ")", x.again(slot), LATE);
            due.of("31 LATE changes nothing");
            due.is("about(2)", x.about(2), 1);
            due.is("about(4)", x.about(4), 1);
            due.is("undo()", x.undo(), 0);
            due.is("again(" + (1 - slot) + ")", x.again(1 - slot), 0);
        }
        due.of("31 LATE: what was kept is gone by a treaty");
        MulesRemember y = Due.withTreaty("MM402");
        y.keep(0);
        y.keep(1);
        y.treaty();
        due.is("again(0)", y.again(0), LATE);
        due.is("again(1)", y.again(1), LATE);
        due.of("31 not LATE: a treaty with a FAULT, a wiped text");
        y.keep(0);
        y.write('M');
        y.treaty();
        y.wipe();
        due.is("again(0)", y.again(0), 0);
    }

    private static MulesRemember keptInTheMidst() {
        MulesRemember x = Due.withTreaty("MA519A000M402M401M400M403M401");
        x.show(0, 1, 1);
        x.sell(2);
        x.step(0, 1);
        x.pause();
        x.keep(1);
        return x;
    }

    private static void againAllIsKept() {
        MulesRemember x = keptInTheMidst();
        x.step(0, 1);
        x.step(3, 0);
        x.sell(0);
        x.forget(0);
        x.show(2, 1, 0);
        x.step(2, 1);
        x.again(1);
        due.of("31 kept: where all stand");
        int[] stones = {5, 4, 4, 4, 4};
        for (int mule = 0; mule <= 4; mule++) {
            due.is("mule(" + mule + ", 0)", x.mule(mule, 0), stones[mule]);
        }
        due.of("31 kept: KINDS");
        int[] kinds = {2, 1, 3, 3, 1};
        for (int mule = 0; mule <= 4; mule++) {
            due.is("mule(" + mule + ", 2)", x.mule(mule, 2), kinds[mule]);
        }
        due.of("31 kept: what was SHOWN");
        int[] shown = {0b10, 0, 0, 0, 0};
        for (int mule = 0; mule <= 4; mule++) {
            due.is("mule(" + mule + ", 3)", x.mule(mule, 3), shown[mule]);
        }
        due.of("31 kept: THE HOUR");
        due.is("about(2)", x.about(2), 2);
        due.of("31 kept: what was BROKEN");
        due.is("about(3)", x.about(3), 1);
    }

    private static void againNoActs() {
        due.of("31 no ACTS when one goes on");
        MulesRemember x = keptInTheMidst();
        due.is("about(4)", x.about(4), 4);
        due.is("again(1)", x.again(1), 2);
        due.is("about(4)", x.about(4), 0);
        due.is("undo()", x.undo(), LATE);
        due.of("31 fourteen acts again, when one has gone on from a full row");
        Due.pauses(x, 20);
        x.again(1);
        Due.pauses(x, 14);
        due.is("about(4)", x.about(4), 14);
        for (int left = 13; left >= 0; left--) {
            due.is("undo()", x.undo(), left);
        }
        due.is("undo()", x.undo(), LATE);
        due.is("about(2)", x.about(2), 2);
    }

    private static void againTwice() {
        due.of("31 kept still, when one has gone on from it");
        MulesRemember x = keptInTheMidst();
        for (int i = 0; i < 3; i++) {
            x.step(0, 1);
            x.pause();
            due.is("again(1)", x.again(1), 2);
            due.is("mule(0, 0)", x.mule(0, 0), 5);
            due.is("about(3)", x.about(3), 1);
        }
    }

    private static void againOfTheOther() {
        due.of("31 each SLOT by itself");
        MulesRemember x = keptInTheMidst();
        x.step(0, 1);
        due.is("keep(0)", x.keep(0), 3);
        due.is("again(1)", x.again(1), 2);
        due.is("mule(0, 0)", x.mule(0, 0), 5);
        due.is("again(0)", x.again(0), 3);
        due.is("mule(0, 0)", x.mule(0, 0), 6);
        due.of("31 kept from what one has gone on from");
        due.is("keep(1)", x.keep(1), 3);
        x.pause();
        due.is("again(1)", x.again(1), 3);
    }

    private static void againLeavesTheRest() {
        MulesRemember x = keptInTheMidst();
        x.see(1, 1, 1, 1, 1);
        x.seed(12);
        x.write('M');
        x.again(1);
        due.of("31 SEEN is not kept");
        due.is("about(5)", x.about(5), 1);
        due.of("31 THE SEED is not kept");
        due.is("seed(0)", x.seed(0), 12);
        due.of("31 THE TEXT is not kept");
        due.is("about(6)", x.about(6), 30);
    }
}
