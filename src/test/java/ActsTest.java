/** Promises 11 to 16: what mules do, and that it is undone. */
public final class ActsTest {
    private static final int UNKNOWN = -1, BAD = -2, LATE = -3;
    private static final Due due = new Due();

    public static void main(String[] args) {
        step();
        stepRefusals();
        pause();
        show();
        showRefusals();
        sell();
        forget();
        undoEach();
        fourteenActs();
        due.end();
    }

    private static void step() {
        MulesRemember x = Due.withTreaty("MA500A520A514A411M402M401");
        due.is("a foal up", x.step(0, 1), 5);
        due.is("its stone", x.mule(0, 0), 5);
        due.is("hour", x.about(2), 1);
        due.is("three are broken", x.about(3), 3);
        due.is("down again", x.step(0, 0), 4);
        due.is("at hour 1 none was broken", x.about(3), 3);
        due.is("an old one down", x.step(1, 0), 3);
        due.is("acts", x.about(4), 3);
        due.is("hour", x.about(2), 3);
        due.is("up", x.step(1, 1), 4);
    }

    private static void stepRefusals() {
        MulesRemember x = Due.withTreaty("MA500M402M401M002M902");
        due.is("step(4, 1)", x.step(4, 1), UNKNOWN);
        due.is("step(-1, 2)", x.step(-1, 2), UNKNOWN);
        due.is("step(0, 2)", x.step(0, 2), BAD);
        due.is("step(3, 2)", x.step(3, 2), BAD);
        due.is("step(0, -1)", x.step(0, -1), BAD);
        due.is("an old one balks", x.step(1, 1), LATE);
        due.is("the south end", x.step(2, 0), LATE);
        due.is("the north end", x.step(3, 1), LATE);
        due.is("hour", x.about(2), 0);
        due.is("acts", x.about(4), 0);
        due.is("broken", x.about(3), 0);
        due.is("stone", x.mule(1, 0), 4);
        due.is("up from the south end", x.step(2, 1), 1);
        due.is("down from the north end", x.step(3, 0), 8);
        due.is("and on", x.step(2, 0), 0);
    }

    private static void pause() {
        MulesRemember x = new MulesRemember();
        for (int i = 1; i <= 20; i++) {
            due.is("pause " + i, x.pause(), i);
        }
        due.is("hour", x.about(2), 20);
        due.is("acts", x.about(4), 14);
        due.is("broken", x.about(3), 0);
    }

    private static void show() {
        MulesRemember x = Due.withTreaty("MA000A000A000M402M401M400M403");
        due.is("show(0, 1, 1)", x.show(0, 1, 1), 1);
        due.is("a foal shows what it was shown", x.show(2, 0, 1), 1);
        due.is("a plain one shows", x.show(0, 2, 2), 2);
        due.is("one of a circus shows", x.show(2, 3, 2), 2);
        due.is("one of a circus is shown", x.show(3, 1, 0), 1);
        due.is("an old one is shown", x.show(1, 0, 2), 1);
        due.is("shown", x.mule(0, 3), 0b110);
        due.is("shown", x.mule(2, 3), 0b110);
        due.is("hour", x.about(2), 0);
        due.is("acts", x.about(4), 6);
    }

    private static void showRefusals() {
        MulesRemember x = Due.withTreaty("MA000A000M402M401M400M502");
        due.is("mule", x.show(4, 1, 0), UNKNOWN);
        due.is("mule", x.show(-1, 1, 0), UNKNOWN);
        due.is("other", x.show(0, 4, 0), UNKNOWN);
        due.is("other", x.show(0, -1, 0), UNKNOWN);
        due.is("article", x.show(0, 1, 2), UNKNOWN);
        due.is("article", x.show(0, 1, -1), UNKNOWN);
        due.is("both are one, and no such article", x.show(0, 0, 2), UNKNOWN);
        due.is("both are one", x.show(1, 1, 0), BAD);
        due.is("not at one stone", x.show(3, 1, 0), LATE);
        due.is("it does not know it", x.show(0, 2, 1), LATE);
        due.is("nothing was shown", x.mule(0, 3), 0);
        due.is("acts", x.about(4), 0);
        due.is("show", x.show(0, 2, 0), 1);
        due.is("shown already", x.show(0, 1, 0), LATE);
        due.is("acts", x.about(4), 1);
        MulesRemember y = Due.withTreaty("MA000A000M403M401M402");
        y.show(0, 1, 0);
        due.is("one of a circus does not know what it was shown", y.show(2, 0, 0), LATE);
        due.is("but the last one", y.show(2, 0, 1), 1);
    }

    private static void sell() {
        MulesRemember x = Due.withTreaty("MA000A000M402M401M400M503");
        x.show(0, 1, 0);
        due.is("a foal", x.sell(0), 2);
        due.is("an old one", x.sell(1), 1);
        due.is("a plain one", x.sell(2), 0);
        due.is("one of a circus", x.sell(3), LATE);
        due.is("a sold one", x.sell(2), LATE);
        due.is("its kind", x.mule(1, 2), 3);
        due.is("what it knows", x.mule(1, 4), 0b10);
        due.is("what the foal was shown stays", x.mule(0, 3), 0b01);
        due.is("what the foal knows", x.mule(0, 4), 0b10);
        due.is("no such mule", x.sell(4), UNKNOWN);
        due.is("no such mule", x.sell(-1), UNKNOWN);
        due.is("acts", x.about(4), 4);
        due.is("hour", x.about(2), 0);
    }

    private static void forget() {
        MulesRemember x = Due.withTreaty("MA000A000A000M402M401M400");
        due.is("none", x.forget(0), LATE);
        due.is("an old one was shown none", x.forget(1), LATE);
        x.show(0, 1, 0);
        x.show(0, 1, 2);
        x.show(2, 1, 1);
        due.is("two", x.forget(0), 2);
        due.is("shown", x.mule(0, 3), 0);
        due.is("knows", x.mule(0, 4), 0);
        due.is("one", x.forget(2), 1);
        due.is("a plain one still knows", x.mule(2, 4), 0b101);
        due.is("none now", x.forget(0), LATE);
        due.is("no such mule", x.forget(3), UNKNOWN);
        due.is("no such mule", x.forget(-1), UNKNOWN);
        due.is("acts", x.about(4), 5);
        due.is("hour", x.about(2), 0);
    }

    private static void undoEach() {
        MulesRemember x = Due.withTreaty("MA500A520M402M401");
        x.pause();
        x.step(0, 1);
        x.step(0, 0);
        x.show(0, 1, 1);
        x.sell(0);
        x.forget(0);
        due.is("undo forget", x.undo(), 5);
        due.is("shown", x.mule(0, 3), 0b10);
        due.is("undo sell", x.undo(), 4);
        due.is("kind", x.mule(0, 2), 2);
        due.is("undo show", x.undo(), 3);
        due.is("shown", x.mule(0, 3), 0);
        due.is("hour", x.about(2), 3);
        due.is("undo step", x.undo(), 2);
        due.is("stone", x.mule(0, 0), 5);
        due.is("broken", x.about(3), 2);
        due.is("hour", x.about(2), 2);
        due.is("undo the breaking step", x.undo(), 1);
        due.is("stone", x.mule(0, 0), 4);
        due.is("broken", x.about(3), 0);
        due.is("undo pause", x.undo(), 0);
        due.is("hour", x.about(2), 0);
        due.is("undo none", x.undo(), LATE);
        due.is("pause", x.pause(), 1);
        due.is("acts", x.about(4), 1);
    }

    private static void fourteenActs() {
        MulesRemember x = Due.withTreaty("MM402");
        x.step(0, 1);
        x.sell(0);
        Due.pauses(x, 13);
        due.is("acts", x.about(4), 14);
        for (int left = 13; left >= 0; left--) {
            due.is("undo", x.undo(), left);
        }
        due.is("undo", x.undo(), LATE);
        due.is("the first one stays", x.mule(0, 0), 5);
        due.is("the second one is undone", x.mule(0, 2), 2);
        due.is("hour", x.about(2), 1);
        Due.pauses(x, 40);
        x.undo();
        x.undo();
        due.is("hour", x.about(2), 39);
        x.pause();
        x.sell(0);
        Due.pauses(x, 5);
        due.is("acts", x.about(4), 14);
        for (int left = 13; left >= 0; left--) {
            due.is("undo", x.undo(), left);
        }
        due.is("hour", x.about(2), 32);
        due.is("kind", x.mule(0, 2), 2);
    }
}
