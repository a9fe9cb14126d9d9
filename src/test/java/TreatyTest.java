/** Promises 1 to 10: the text, the treaty and what is told of it. */
public final class TreatyTest {
    private static final int UNKNOWN = -1, BAD = -2, LATE = -3, FULL = -4, NONE = -9;
    private static final Due due = new Due();

    public static void main(String[] args) {
        aNewObject();
        write();
        wipe();
        fault();
        faultsOfTooManyParts();
        treaty();
        treatyAnew();
        lateTreatyChangesNothing();
        about();
        article();
        mule();
        knows();
        byEachSort();
        byOthers();
        byRefusals();
        balks();
        due.end();
    }

    private static void aNewObject() {
        MulesRemember x = new MulesRemember();
        for (int what = 0; what <= 6; what++) {
            due.is("new about(" + what + ")", x.about(what), 0);
        }
        due.is("new article", x.article(0, 0), UNKNOWN);
        due.is("new mule", x.mule(0, 0), UNKNOWN);
        due.is("new fault", x.fault(), 0);
        due.is("new treaty", x.treaty(), LATE);
        due.is("new undo", x.undo(), LATE);
        due.is("new again(0)", x.again(0), LATE);
        due.is("new again(1)", x.again(1), LATE);
        due.is("new unsee", x.unsee(), 0);
        due.is("new seed", x.seed(0), 0);
    }

    private static void write() {
        MulesRemember x = new MulesRemember();
        due.is("write(-1)", x.write(-1), BAD);
        due.is("write(256)", x.write(256), BAD);
        due.is("about(6)", x.about(6), 0);
        due.is("write(0)", x.write(0), 1);
        due.is("write(255)", x.write(255), 2);
        for (int i = 3; i <= 48; i++) {
            due.is("write " + i, x.write(65), i);
        }
        due.is("write 49", x.write(65), FULL);
        due.is("write(256) when full", x.write(256), BAD);
        due.is("about(6)", x.about(6), 48);
    }

    private static void wipe() {
        MulesRemember x = Due.withTreaty("MM410A123");
        due.is("wipe", x.wipe(), 9);
        due.is("wipe again", x.wipe(), 0);
        due.is("fault of the wiped text", x.fault(), 0);
        due.is("mules stay", x.about(0), 1);
        due.is("articles stay", x.about(1), 1);
        due.is("write after wipe", x.write(77), 1);
        due.is("fault", x.fault(), NONE);
    }

    private static void faultIs(String text, int want) {
        due.is("fault of " + text, Due.withText(text).fault(), want);
    }

    private static void fault() {
        faultIs("", 0);
        faultIs("A", 0);
        faultIs("m", 0);
        faultIs("M", NONE);
        faultIs("MB", 1);
        faultIs("M0", 1);
        faultIs("MM", 2);
        faultIs("MM9", 3);
        faultIs("MM93", 4);
        faultIs("MM933", NONE);
        faultIs("MA", 2);
        faultIs("MA9", 3);
        faultIs("MA93", 4);
        faultIs("MA939", NONE);
        faultIs("MM/", 2);
        faultIs("MM:", 2);
        faultIs("MA:", 2);
        faultIs("MM04", 3);
        faultIs("MA04", 3);
        faultIs("MM0/", 3);
        faultIs("MM004", 4);
        faultIs("MM00/", 4);
        faultIs("MA00:", 4);
        faultIs("MA00/", 4);
        faultIs("MA004", NONE);
        faultIs("MA009M", 6);
        faultIs("MA009a", 5);
        faultIs("MA009A0x", 7);
        faultIs("MXM04:", 1);
        faultIs("MM000A000M111A22", 16);
    }

    private static void faultsOfTooManyParts() {
        String mules = "M000".repeat(5);
        String articles = "A000".repeat(5);
        faultIs("M" + mules, NONE);
        faultIs("M" + articles, NONE);
        faultIs("M" + mules + "M", 21);
        faultIs("M" + articles + "A", 21);
        faultIs("M" + mules + "A", 22);
        faultIs("M" + articles + "M", 22);
        faultIs("M" + mules + "M000A", 21);
        faultIs("M" + articles + mules, NONE);
        faultIs("M" + articles + mules + "M", 41);
        faultIs("M" + articles + mules + "A", 41);
        faultIs("M" + articles + mules + "AAAAAAA", 41);
    }

    private static void treaty() {
        due.is("treaty of M", Due.withText("M").treaty(), 0);
        due.is("treaty of a mule", Due.withText("MM000").treaty(), 10);
        due.is("treaty of an article", Due.withText("MA000").treaty(), 1);
        MulesRemember x = Due.withText("MM410A123M722");
        due.is("treaty", x.treaty(), 21);
        due.is("mule 0", x.mule(0, 0), 4);
        due.is("mule 1", x.mule(1, 0), 7);
        due.is("the text stays", x.about(6), 13);
        due.is("treaty again", x.treaty(), 21);
        due.is("all", Due.withText("M" + "A000".repeat(5) + "M000".repeat(5)).treaty(), 55);
    }

    private static void treatyAnew() {
        MulesRemember x = Due.withTreaty("MA520M401M402");
        x.seed(17);
        x.see(1, 1, 1, 1, 1);
        x.show(1, 0, 0);
        x.step(1, 0);
        x.step(1, 1);
        x.sell(0);
        x.keep(0);
        x.keep(1);
        due.is("treaty anew", x.treaty(), 21);
        due.is("hour", x.about(2), 0);
        due.is("acts", x.about(4), 0);
        due.is("undo", x.undo(), LATE);
        due.is("kind", x.mule(0, 2), 1);
        due.is("shown", x.mule(1, 3), 0);
        due.is("again(0)", x.again(0), LATE);
        due.is("again(1)", x.again(1), LATE);
        due.is("seen", x.about(5), 1);
        due.is("seed", x.seed(0), 17);
        x.step(1, 1);
        due.is("broken", x.about(3), 1);
        Due.rewrite(x, "MM999");
        due.is("treaty with a fault", x.treaty(), LATE);
        Due.rewrite(x, "M");
        due.is("treaty of none", x.treaty(), 0);
        due.is("broken anew", x.about(3), 0);
        due.is("mules anew", x.mule(0, 0), UNKNOWN);
        due.is("articles anew", x.article(0, 0), UNKNOWN);
    }

    private static void lateTreatyChangesNothing() {
        MulesRemember x = Due.withTreaty("MA520M402");
        x.step(0, 1);
        x.keep(0);
        x.write('A');
        due.is("treaty with a fault", x.treaty(), LATE);
        due.is("mules", x.about(0), 1);
        due.is("articles", x.about(1), 1);
        due.is("hour", x.about(2), 1);
        due.is("broken", x.about(3), 1);
        due.is("acts", x.about(4), 1);
        due.is("text", x.about(6), 10);
        due.is("stone", x.mule(0, 0), 5);
        due.is("again", x.again(0), 1);
    }

    private static void about() {
        MulesRemember x = Due.withTreaty("MA520A521M402M412M422");
        x.pause();
        x.step(0, 1);
        x.see(1, 1, 1, 1, 1);
        x.see(1, 1, 1, 1, 1);
        x.see(2, 1, 1, 1, 1);
        x.see(2, 1, 1, 1, 1);
        due.is("about(0)", x.about(0), 3);
        due.is("about(1)", x.about(1), 2);
        due.is("about(2)", x.about(2), 2);
        due.is("about(3)", x.about(3), 1);
        due.is("about(4)", x.about(4), 2);
        due.is("about(5)", x.about(5), 4);
        due.is("about(6)", x.about(6), 21);
        due.is("about(-1)", x.about(-1), BAD);
        due.is("about(7)", x.about(7), BAD);
    }

    private static void article() {
        MulesRemember x = Due.withTreaty("MA739A026M400M401M402M403");
        due.is("article(0, 0)", x.article(0, 0), 7);
        due.is("article(0, 1)", x.article(0, 1), 3);
        due.is("article(0, 2)", x.article(0, 2), 9);
        due.is("article(1, 0)", x.article(1, 0), 0);
        due.is("article(1, 1)", x.article(1, 1), 2);
        due.is("article(1, 2)", x.article(1, 2), 6);
        due.is("article(0, 3)", x.article(0, 3), 0b0011);
        due.is("article(1, 3)", x.article(1, 3), 0b1010);
        x.show(2, 1, 0);
        due.is("article(0, 3) shown", x.article(0, 3), 0b0111);
        due.is("article(0, -1)", x.article(0, -1), BAD);
        due.is("article(0, 4)", x.article(0, 4), BAD);
        due.is("article(-1, 0)", x.article(-1, 0), UNKNOWN);
        due.is("article(2, 0)", x.article(2, 0), UNKNOWN);
        due.is("article(2, 4)", x.article(2, 4), UNKNOWN);
    }

    private static void mule() {
        MulesRemember x = Due.withTreaty("MA739A026M931M402M031");
        due.is("mule(0, 0)", x.mule(0, 0), 9);
        due.is("mule(0, 1)", x.mule(0, 1), 3);
        due.is("mule(0, 2)", x.mule(0, 2), 1);
        due.is("mule(1, 0)", x.mule(1, 0), 4);
        due.is("mule(1, 1)", x.mule(1, 1), 0);
        due.is("mule(1, 2)", x.mule(1, 2), 2);
        due.is("mule(2, 3)", x.mule(2, 3), 0);
        due.is("mule(0, 5)", x.mule(0, 5), BAD);
        due.is("mule(0, -1)", x.mule(0, -1), BAD);
        due.is("mule(3, 0)", x.mule(3, 0), UNKNOWN);
        due.is("mule(-1, 0)", x.mule(-1, 0), UNKNOWN);
        due.is("mule(3, 5)", x.mule(3, 5), UNKNOWN);
    }

    private static void knows() {
        MulesRemember x = Due.withTreaty("MA000A000A000A000A000M400M401M402M403");
        due.is("a plain one", x.mule(0, 4), 0b10101);
        due.is("an old one", x.mule(1, 4), 0b11111);
        due.is("a foal", x.mule(2, 4), 0);
        due.is("one of a circus", x.mule(3, 4), 0b10000);
        x.show(0, 1, 3);
        x.show(2, 1, 1);
        x.show(2, 1, 2);
        x.show(3, 1, 1);
        due.is("a plain one, shown", x.mule(0, 4), 0b11101);
        due.is("a foal, shown", x.mule(2, 4), 0b00110);
        due.is("what the foal was shown", x.mule(2, 3), 0b00110);
        due.is("one of a circus, shown", x.mule(3, 4), 0b10000);
        due.is("what it was shown", x.mule(3, 3), 0b00010);
        MulesRemember y = Due.withTreaty("MA000A000M400M401M402M403");
        due.is("a plain one of 2", y.mule(0, 4), 0b01);
        due.is("an old one of 2", y.mule(1, 4), 0b11);
        due.is("one of a circus of 2", y.mule(3, 4), 0b10);
        MulesRemember one = Due.withTreaty("MA520M403");
        due.is("one of a circus of 1", one.mule(0, 4), 0b1);
        due.is("it balks", one.balks(0, 1), 0);
        MulesRemember z = Due.withTreaty("MM400M401M402M403");
        for (int mule = 0; mule < 4; mule++) {
            due.is("no articles, mule " + mule, z.mule(mule, 4), 0);
        }
    }

    private static void byEachSort() {
        MulesRemember coat = Due.withTreaty("MA505M410M400M610M602");
        due.is("a grey one up, by coat", coat.by(0, 1), 1);
        due.is("a bay one up, by coat", coat.by(1, 1), 0);
        due.is("a grey one down, by coat", coat.by(2, 0), 1);
        due.is("a grey one away, by coat", coat.by(0, 0), 0);
        MulesRemember hour = Due.withTreaty("MA512M410M602");
        due.is("at hour 0", hour.by(0, 1), 1);
        hour.pause();
        due.is("at hour 1", hour.by(1, 0), 1);
        hour.pause();
        due.is("at hour 2", hour.by(0, 1), 0);
        Due.pauses(hour, 7);
        due.is("at hour 9", hour.by(0, 1), 0);
        hour.pause();
        due.is("at hour 10", hour.by(0, 1), 1);
        MulesRemember way = Due.withTreaty("MA523A528M410M602");
        due.is("from the south", way.by(0, 1), 0b10);
        due.is("from the north", way.by(1, 0), 0b01);
        MulesRemember one = Due.withTreaty("MA010M001M101");
        due.is("an hour of 0 forbids none", one.by(1, 0), 0);
    }

    private static void byOthers() {
        MulesRemember x = Due.withTreaty("MA532A538A534A535A531M402M602M502M902M202");
        due.is("three others from 5", x.by(0, 1), 0b00100);
        due.is("one's own is not counted", x.by(1, 0), 0b00110);
        MulesRemember y = Due.withTreaty("MA031A033A034M102M102M102M102");
        due.is("three others from 0", y.by(3, 0), 0b100);
    }

    private static void byRefusals() {
        MulesRemember x = Due.withTreaty("MA000A911M002M902M802");
        due.is("by(0, 0) at the last stone", x.by(0, 0), LATE);
        due.is("by(1, 1) at the last stone", x.by(1, 1), LATE);
        due.is("by(0, 1)", x.by(0, 1), 0);
        due.is("by(2, 1)", x.by(2, 1), 0b10);
        due.is("by(0, 2)", x.by(0, 2), BAD);
        due.is("by(0, -1)", x.by(0, -1), BAD);
        due.is("by(3, 0)", x.by(3, 0), UNKNOWN);
        due.is("by(-1, 0)", x.by(-1, 0), UNKNOWN);
        due.is("by(3, 2)", x.by(3, 2), UNKNOWN);
    }

    private static void balks() {
        MulesRemember x = Due.withTreaty("MA500A520A514M402M401M400M403M900");
        due.is("a foal", x.balks(0, 1), NONE);
        due.is("an old one", x.balks(1, 1), 0);
        due.is("a plain one", x.balks(2, 1), 0);
        due.is("one of a circus", x.balks(3, 1), 2);
        due.is("an old one down", x.balks(1, 0), NONE);
        x.show(0, 1, 2);
        due.is("a foal, shown 2", x.balks(0, 1), 2);
        x.show(0, 1, 1);
        due.is("a foal, shown 1", x.balks(0, 1), 1);
        due.is("balks(4, 1) at the last stone", x.balks(4, 1), LATE);
        due.is("balks(4, 0)", x.balks(4, 0), NONE);
        due.is("balks(4, 2)", x.balks(4, 2), BAD);
        due.is("balks(4, -1)", x.balks(4, -1), BAD);
        due.is("balks(5, 0)", x.balks(5, 0), UNKNOWN);
        due.is("balks(-1, 2)", x.balks(-1, 2), UNKNOWN);
        due.is("nothing is changed", x.about(2), 0);
        due.is("two acts", x.about(4), 2);
    }
}
