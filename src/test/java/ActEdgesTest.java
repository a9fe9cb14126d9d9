/** Promises 11 to 16 at their bounds: the ends of the ridge, refused acts, the full row of acts, undone. */
public final class ActEdgesTest {
    private static final int UNKNOWN = -1, BAD = -2, LATE = -3, NONE = -9;
    private static final int LEAST = Integer.MIN_VALUE, MOST = Integer.MAX_VALUE;
    private static final Due due = new Due();

    public static void main(String[] args) {
        stepRefused();
        stepAtTheEnds();
        stepBreaks();
        pause();
        showRefused();
        showCounts();
        showWhoKnows();
        sell();
        forget();
        undo();
        undoOfEach();
        fullRow();
        fullRowByEach();
        fullRowAndOn();
        due.end();
    }

    // ---- promise 11

    private static void stepRefused() {
        MulesRemember x = Due.withTreaty("MA519A319M401M402");
        due.of("11 UNKNOWN: there is no such MULE");
        for (int mule : new int[] {-1, 2, 5, LEAST, MOST}) {
            due.is("step(" + mule + ", 1)", x.step(mule, 1), UNKNOWN);
        }
        due.of("11 BAD: way");
        for (int way : new int[] {-1, 2, LEAST, MOST}) {
            due.is("step(1, " + way + ")", x.step(1, way), BAD);
        }
        due.of("11 UNKNOWN is told ahead of BAD");
        due.is("step(2, 2)", x.step(2, 2), UNKNOWN);
        due.is("step(-1, -1)", x.step(-1, -1), UNKNOWN);
        due.of("11 BAD is told of a MULE that balks");
        due.is("step(0, 2)", x.step(0, 2), BAD);
        due.is("step(0, -1)", x.step(0, -1), BAD);
        due.of("11 LATE: it BALKS");
        due.is("step(0, 1)", x.step(0, 1), LATE);
        due.is("step(0, 0)", x.step(0, 0), LATE);
        due.of("11 what is refused changes nothing");
        due.is("mule(0, 0)", x.mule(0, 0), 4);
        due.is("mule(1, 0)", x.mule(1, 0), 4);
        for (int what = 2; what <= 4; what++) {
            due.is("about(" + what + ")", x.about(what), 0);
        }
        due.is("undo()", x.undo(), LATE);
    }

    private static void stepAtTheEnds() {
        due.of("11 LATE: there is no STONE south of the first");
        MulesRemember x = Due.withTreaty("MM101M802");
        due.is("step(0, 0)", x.step(0, 0), 0);
        due.is("step(0, 0)", x.step(0, 0), LATE);
        due.is("mule(0, 0)", x.mule(0, 0), 0);
        due.of("11 LATE: there is no STONE north of the last");
        due.is("step(1, 1)", x.step(1, 1), 9);
        due.is("step(1, 1)", x.step(1, 1), LATE);
        due.is("mule(1, 0)", x.mule(1, 0), 9);
        due.is("about(2)", x.about(2), 2);
        due.is("about(4)", x.about(4), 2);
        due.of("11 its STONE, from end to end");
        for (int stone = 1; stone <= 9; stone++) {
            due.is("step(0, 1)", x.step(0, 1), stone);
        }
        due.is("step(0, 1)", x.step(0, 1), LATE);
        for (int stone = 8; stone >= 0; stone--) {
            due.is("step(0, 0)", x.step(0, 0), stone);
        }
        due.is("step(0, 0)", x.step(0, 0), LATE);
    }

    private static void stepBreaks() {
        due.of("11 as many more are BROKEN as ARTICLES FORBID it: none");
        MulesRemember none = Due.withTreaty("MA419M402");
        due.is("step(0, 1)", none.step(0, 1), 5);
        due.is("about(3)", none.about(3), 0);
        due.of("11 as many more are BROKEN as ARTICLES FORBID it: all five");
        MulesRemember five = Due.withTreaty("MA519A500A520A531A518M402");
        due.is("step(0, 1)", five.step(0, 1), 5);
        due.is("about(3)", five.about(3), 5);
        due.of("11 THE HOUR is as it is ahead of the STEP");
        MulesRemember hour = Due.withTreaty("MA511A411M402");
        due.is("step(0, 1) at hour 0", hour.step(0, 1), 5);
        due.is("about(3)", hour.about(3), 1);
        due.is("step(0, 0) at hour 1", hour.step(0, 0), 4);
        due.is("about(3)", hour.about(3), 1);
        Due.pauses(hour, 8);
        due.is("step(0, 1) at hour 10", hour.step(0, 1), 5);
        due.is("about(3)", hour.about(3), 2);
        due.of("11 all stand as they are ahead of the STEP");
        MulesRemember stand = Due.withTreaty("MA531A431M402M502");
        due.is("step(0, 1), one there", stand.step(0, 1), 5);
        due.is("about(3)", stand.about(3), 0);
        due.is("step(1, 0), one north of it", stand.step(1, 0), 4);
        due.is("about(3)", stand.about(3), 0);
        due.is("step(0, 0), one there", stand.step(0, 0), 4);
        due.is("about(3)", stand.about(3), 0);
        due.is("step(0, 1), none there", stand.step(0, 1), 5);
        due.is("about(3)", stand.about(3), 1);
    }

    // ---- promise 12

    private static void pause() {
        due.of("12 WAITED with no mules at all");
        MulesRemember x = new MulesRemember();
        due.is("pause()", x.pause(), 1);
        due.is("undo()", x.undo(), 0);
        due.is("about(2)", x.about(2), 0);
        due.of("12 THE HOUR goes on beyond 10");
        Due.pauses(x, 8);
        due.is("pause()", x.pause(), 9);
        due.is("pause()", x.pause(), 10);
        due.is("pause()", x.pause(), 11);
        due.of("12 THE HOUR goes on when the row of acts is full");
        Due.pauses(x, 88);
        due.is("pause()", x.pause(), 100);
        due.is("about(4)", x.about(4), 14);
    }

    // ---- promise 13

    private static void showRefused() {
        MulesRemember x = Due.withTreaty("MA000A000M401M402M402M501M300");
        due.of("13 UNKNOWN: mule");
        for (int mule : new int[] {-1, 5, LEAST, MOST}) {
            due.is("show(" + mule + ", 0, 0)", x.show(mule, 0, 0), UNKNOWN);
        }
        due.of("13 UNKNOWN: other");
        for (int other : new int[] {-1, 5, LEAST, MOST}) {
            due.is("show(1, " + other + ", 0)", x.show(1, other, 0), UNKNOWN);
        }
        due.of("13 UNKNOWN: article");
        for (int article : new int[] {-1, 2, 5, 32, LEAST, MOST}) {
            due.is("show(1, 0, " + article + ")", x.show(1, 0, article), UNKNOWN);
        }
        due.of("13 UNKNOWN is told ahead of BAD");
        due.is("show(5, 5, 0)", x.show(5, 5, 0), UNKNOWN);
        due.is("show(1, 1, 2)", x.show(1, 1, 2), UNKNOWN);
        due.of("13 UNKNOWN is told ahead of LATE");
        due.is("show(3, 0, 2)", x.show(3, 0, 2), UNKNOWN);
        due.of("13 BAD: both are one");
        due.is("show(0, 0, 0)", x.show(0, 0, 0), BAD);
        due.of("13 BAD is told ahead of LATE");
        due.is("show(1, 1, 0)", x.show(1, 1, 0), BAD);
        due.of("13 LATE: they are not at one STONE");
        due.is("show(3, 0, 0), one north", x.show(3, 0, 0), LATE);
        due.is("show(4, 0, 0), one south", x.show(4, 0, 0), LATE);
        due.is("show(0, 3, 0)", x.show(0, 3, 0), LATE);
        due.of("13 LATE: the other one does not know it");
        due.is("show(1, 2, 0)", x.show(1, 2, 0), LATE);
        due.of("13 what is refused changes nothing");
        for (int mule = 0; mule <= 4; mule++) {
            due.is("mule(" + mule + ", 3)", x.mule(mule, 3), 0);
        }
        due.is("about(4)", x.about(4), 0);
        shownAlready();
    }

    private static void shownAlready() {
        due.of("13 LATE: it was SHOWN it already");
        MulesRemember x = Due.withTreaty("MA000A000M401M402M401");
        due.is("show(1, 0, 1)", x.show(1, 0, 1), 1);
        due.is("show(1, 0, 1)", x.show(1, 0, 1), LATE);
        due.is("show(1, 2, 1), by another one", x.show(1, 2, 1), LATE);
        due.is("about(4)", x.about(4), 1);
        due.is("mule(1, 3)", x.mule(1, 3), 0b10);
        due.of("13 not LATE: it KNOWS it, but was not SHOWN it");
        due.is("show(2, 0, 1)", x.show(2, 0, 1), 1);
        due.of("13 not LATE: it forgot, or it was undone");
        x.forget(1);
        due.is("show(1, 0, 1)", x.show(1, 0, 1), 1);
        x.undo();
        due.is("show(1, 0, 1)", x.show(1, 0, 1), 1);
    }

    private static void showCounts() {
        due.of("13 how many ARTICLES it was shown, 1 .. 5");
        MulesRemember x = Due.withTreaty("MA000A000A000A000A000M401M402");
        int[] order = {4, 0, 2, 3, 1};
        for (int i = 0; i < 5; i++) {
            due.is("show(1, 0, " + order[i] + ")", x.show(1, 0, order[i]), i + 1);
        }
        due.of("13 LATE: all were SHOWN already");
        for (int i = 0; i < 5; i++) {
            due.is("show(1, 0, " + i + ")", x.show(1, 0, i), LATE);
        }
        due.is("mule(1, 3)", x.mule(1, 3), 0b11111);
        due.is("about(2)", x.about(2), 0);
    }

    private static void showWhoKnows() {
        MulesRemember x = Due.withTreaty("MA000A000M402M400M403M402");
        due.of("13 by another one that KNOWS it: a PLAIN one those of even number");
        due.is("show(0, 1, 1)", x.show(0, 1, 1), LATE);
        due.is("show(0, 1, 0)", x.show(0, 1, 0), 1);
        due.of("13 by another one that KNOWS it: a CIRCUS one the last alone");
        due.is("show(0, 2, 0)", x.show(0, 2, 0), LATE);
        due.is("show(0, 2, 1)", x.show(0, 2, 1), 2);
        due.of("13 by another one that KNOWS it: a FOAL what it was SHOWN");
        due.is("show(3, 0, 0)", x.show(3, 0, 0), 1);
        due.is("show(0, 3, 1)", x.show(0, 3, 1), LATE);
        due.of("13 a CIRCUS one is SHOWN, and knows it not");
        due.is("show(2, 0, 0)", x.show(2, 0, 0), 1);
        due.is("mule(2, 3)", x.mule(2, 3), 0b01);
        due.is("mule(2, 4)", x.mule(2, 4), 0b10);
        due.is("show(1, 2, 0)", x.show(1, 2, 0), LATE);
    }

    // ---- promise 14

    private static void sell() {
        due.of("14 UNKNOWN: there is no such MULE");
        MulesRemember x = Due.withTreaty("MA000A000M400M401M402M403");
        for (int mule : new int[] {-1, 4, 5, LEAST, MOST}) {
            due.is("sell(" + mule + ")", x.sell(mule), UNKNOWN);
        }
        due.is("with no mules at all", new MulesRemember().sell(0), UNKNOWN);
        due.of("14 LATE: it is CIRCUS, as told");
        due.is("sell(3)", x.sell(3), LATE);
        due.is("about(4)", x.about(4), 0);
        for (int kind = 0; kind <= 2; kind++) {
            due.of("14 the KIND it was: " + kind);
            due.is("sell(" + kind + ")", x.sell(kind), kind);
            due.of("14 LATE: it is CIRCUS, as sold");
            due.is("sell(" + kind + ")", x.sell(kind), LATE);
            due.is("mule(" + kind + ", 2)", x.mule(kind, 2), 3);
        }
        due.is("about(4)", x.about(4), 3);
        due.of("14 SOLD: a MULE is CIRCUS now (for good)");
        x.forget(0);
        Due.pauses(x, 20);
        x.step(0, 1);
        due.is("mule(0, 2)", x.mule(0, 2), 3);
        due.is("sell(0)", x.sell(0), LATE);
        due.of("14 a sold one whose sale is undone can be SOLD");
        MulesRemember y = Due.withTreaty("MM402");
        y.sell(0);
        y.undo();
        due.is("mule(0, 2)", y.mule(0, 2), 2);
        due.is("sell(0)", y.sell(0), 2);
    }

    // ---- promise 15

    private static void forget() {
        due.of("15 UNKNOWN: there is no such MULE");
        MulesRemember x = Due.withTreaty("MA000A000A000A000A000M401M402M400M403");
        for (int mule : new int[] {-1, 4, 5, LEAST, MOST}) {
            due.is("forget(" + mule + ")", x.forget(mule), UNKNOWN);
        }
        due.of("15 LATE: none, whatever it KNOWS");
        for (int mule = 0; mule <= 3; mule++) {
            due.is("forget(" + mule + ")", x.forget(mule), LATE);
        }
        due.is("about(4)", x.about(4), 0);
        for (int many = 1; many <= 5; many++) {
            due.of("15 how many it was shown: " + many);
            for (int article = 0; article < many; article++) {
                x.show(1, 0, article);
            }
            due.is("forget(1)", x.forget(1), many);
            due.is("mule(1, 3)", x.mule(1, 3), 0);
            due.of("15 LATE: none, as forgotten");
            due.is("forget(1)", x.forget(1), LATE);
        }
        due.of("15 a CIRCUS one forgets what it was SHOWN");
        x.show(3, 0, 2);
        due.is("forget(3)", x.forget(3), 1);
        due.is("mule(3, 4)", x.mule(3, 4), 0b10000);
        due.of("15 an OLD one forgets what it was SHOWN, and KNOWS it");
        x.show(2, 0, 3);
        x.show(0, 2, 3);
        due.is("forget(0)", x.forget(0), 1);
        due.is("mule(0, 4)", x.mule(0, 4), 0b11111);
    }

    // ---- promise 16

    private static void undo() {
        due.of("16 LATE: there is none, of a new object");
        MulesRemember x = new MulesRemember();
        due.is("undo()", x.undo(), LATE);
        due.of("16 how many are left: 0");
        x.pause();
        due.is("undo()", x.undo(), 0);
        due.of("16 LATE: there is none, all are undone");
        due.is("undo()", x.undo(), LATE);
        due.is("undo()", x.undo(), LATE);
        due.is("about(2)", x.about(2), 0);
        due.is("about(4)", x.about(4), 0);
        due.of("16 LATE: there is none, what was refused is none");
        MulesRemember y = Due.withTreaty("MA519M401M403");
        y.step(0, 1);
        y.sell(1);
        y.forget(0);
        y.show(0, 0, 0);
        due.is("undo()", y.undo(), LATE);
        due.of("16 LATE: there is none, since another one was kept and gone on from");
        x.pause();
        x.keep(0);
        x.pause();
        x.again(0);
        due.is("undo()", x.undo(), LATE);
        due.is("about(2)", x.about(2), 1);
        due.of("16 an act after an undone one stands in its stead");
        MulesRemember z = Due.withTreaty("MM402");
        z.step(0, 1);
        z.pause();
        z.undo();
        z.step(0, 0);
        due.is("undo()", z.undo(), 1);
        due.is("mule(0, 0)", z.mule(0, 0), 5);
        due.is("undo()", z.undo(), 0);
        due.is("mule(0, 0)", z.mule(0, 0), 4);
    }

    private static final String FOR_EACH = "MA519M402M401M400";

    /** One act of each kind, by its number, each of which can be of a new treaty FOR_EACH made ready. */
    private static int act(MulesRemember x, int kind) {
        switch (kind) {
            case 0: return x.step(0, 1);
            case 1: return x.pause();
            case 2: return x.show(0, 1, 0);
            case 3: return x.sell(1);
            default: return x.forget(0);
        }
    }

    private static void undoOfEach() {
        String[] acts = {"STEPPED", "WAITED", "SHOWN", "SOLD", "FORGOT"};
        int[] answers = {5, 1, 1, 1, 1};
        for (int kind = 0; kind <= 4; kind++) {
            due.of("16 " + acts[kind] + " is one of the ACTS, undone");
            MulesRemember x = Due.withTreaty(FOR_EACH);
            int ahead = kind == 4 ? 1 : 0;
            if (ahead == 1) {
                x.show(0, 1, 0);
            }
            due.is("the act", act(x, kind), answers[kind]);
            due.is("about(4)", x.about(4), ahead + 1);
            due.is("undo()", x.undo(), ahead);
            due.is("mule(0, 0)", x.mule(0, 0), 4);
            due.is("mule(0, 3)", x.mule(0, 3), ahead);
            due.is("mule(1, 2)", x.mule(1, 2), 1);
            due.is("about(2)", x.about(2), 0);
            due.is("about(3)", x.about(3), 0);
        }
    }

    private static void undoAll(MulesRemember x, int from) {
        for (int left = from - 1; left >= 0; left--) {
            due.is("undo()", x.undo(), left);
        }
        due.is("undo()", x.undo(), LATE);
    }

    private static void fullRow() {
        due.of("16 ACTS: 14, none is forgotten");
        MulesRemember x = new MulesRemember();
        for (int acts = 1; acts <= 14; acts++) {
            x.pause();
            due.is("about(4)", x.about(4), acts);
        }
        undoAll(x, 14);
        due.is("about(2)", x.about(2), 0);
        due.of("16 ACTS: the fifteenth, and the first one is forgotten");
        Due.pauses(x, 15);
        due.is("about(4)", x.about(4), 14);
        undoAll(x, 14);
        due.is("about(2)", x.about(2), 1);
        due.of("16 ACTS: the twenty-eighth and twenty-ninth");
        Due.pauses(x, 28);
        due.is("about(4)", x.about(4), 14);
        undoAll(x, 14);
        due.is("about(2)", x.about(2), 15);
        Due.pauses(x, 29);
        undoAll(x, 14);
        due.is("about(2)", x.about(2), 30);
    }

    private static void fullRowByEach() {
        String[] acts = {"STEPPED", "WAITED", "SHOWN", "SOLD", "FORGOT"};
        for (int kind = 0; kind <= 4; kind++) {
            due.of("16 " + acts[kind] + " comes to a full row, and the first one is forgotten");
            MulesRemember x = Due.withTreaty(FOR_EACH);
            x.sell(2);
            if (kind == 4) {
                x.show(0, 1, 0);
            }
            Due.pauses(x, kind == 4 ? 12 : 13);
            due.is("about(4)", x.about(4), 14);
            act(x, kind);
            due.is("about(4)", x.about(4), 14);
            undoAll(x, 14);
            due.is("the first one stays", x.mule(2, 2), 3);
            due.is("all others are undone", x.about(2), 0);
            due.is("mule(0, 0)", x.mule(0, 0), 4);
            due.is("mule(0, 3)", x.mule(0, 3), 0);
            due.is("mule(1, 2)", x.mule(1, 2), 1);
        }
        due.of("16 what is refused does not push the first one out of a full row");
        MulesRemember x = Due.withTreaty("MA519M401M403");
        Due.pauses(x, 14);
        x.undo();
        x.keep(0);
        x.keep(9);
        x.pause();
        x.sell(1);
        x.forget(0);
        x.show(0, 0, 0);
        x.step(0, 1);
        x.step(0, 2);
        undoAll(x, 14);
        due.is("about(2)", x.about(2), 0);
    }

    private static void fullRowAndOn() {
        due.of("16 some undone of a full row, and others come");
        MulesRemember x = Due.withTreaty("MM002");
        for (int i = 0; i < 9; i++) {
            x.step(0, 1);
        }
        for (int i = 0; i < 9; i++) {
            x.step(0, 0);
        }
        for (int left = 13; left >= 9; left--) {
            due.is("undo()", x.undo(), left);
        }
        due.is("mule(0, 0)", x.mule(0, 0), 5);
        Due.pauses(x, 7);
        due.is("about(4)", x.about(4), 14);
        for (int left = 13; left >= 7; left--) {
            due.is("undo()", x.undo(), left);
        }
        due.is("mule(0, 0)", x.mule(0, 0), 5);
        for (int left = 6; left >= 0; left--) {
            due.is("undo()", x.undo(), left);
        }
        due.is("undo()", x.undo(), LATE);
        due.is("mule(0, 0)", x.mule(0, 0), 6);
        due.is("about(2)", x.about(2), 6);
        due.of("10 NONE: nothing is forbidden when all is undone");
        due.is("balks(0, 1)", x.balks(0, 1), NONE);
    }
}
