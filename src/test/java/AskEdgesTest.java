/** Promises 6 to 10, what FORBIDS a step and who KNOWS what, at their bounds. */
public final class AskEdgesTest {
    private static final int UNKNOWN = -1, BAD = -2, LATE = -3, NONE = -9;
    private static final int LEAST = Integer.MIN_VALUE, MOST = Integer.MAX_VALUE;
    private static final String MULES = "M000".repeat(5), ARTICLES = "A000".repeat(5);
    private static final Due due = new Due();

    public static void main(String[] args) {
        about();
        article();
        mule();
        knows();
        forbidsByCoat();
        forbidsByHour();
        forbidsByWay();
        forbidsByOthers();
        forbidsTheStoneAlone();
        by();
        balks();
        due.end();
    }

    // ---- promise 6

    private static void about() {
        due.of("6 about: BAD, less than 0");
        MulesRemember x = Due.withTreaty("MA111M222");
        due.is("about(-1)", x.about(-1), BAD);
        due.is("about(least)", x.about(LEAST), BAD);
        due.of("6 about: BAD, more than 6");
        due.is("about(7)", x.about(7), BAD);
        due.is("about(most)", x.about(MOST), BAD);
        due.of("6 about: all are 0 of an empty treaty");
        MulesRemember none = Due.withTreaty("M");
        for (int what = 0; what <= 5; what++) {
            due.is("about(" + what + ")", none.about(what), 0);
        }
        due.is("about(6)", none.about(6), 1);
        aboutAtTheMost();
    }

    private static void aboutAtTheMost() {
        MulesRemember x = Due.withTreaty("M" + ARTICLES + MULES);
        due.of("6 MULES (what = 0): 5 at most");
        due.is("about(0)", x.about(0), 5);
        due.of("6 ARTICLES (1): 5 at most");
        due.is("about(1)", x.about(1), 5);
        due.of("6 THE HOUR (2) is not what is left of it by 10");
        Due.pauses(x, 25);
        due.is("about(2)", x.about(2), 25);
        due.of("6 ACTS (4): 14 at most");
        due.is("about(4)", x.about(4), 14);
        due.of("6 SEEN (5): 6 at most");
        for (int i = 0; i < 8; i++) {
            x.see(1, 1, 1, 1, 1);
        }
        due.is("about(5)", x.about(5), 6);
        due.of("6 bytes of THE TEXT (6): 48 at most");
        Due.write(x, "0123456789");
        due.is("about(6)", x.about(6), 48);
        due.of("6 what was BROKEN (3) by five articles");
        MulesRemember five = Due.withTreaty("MA519A520A500A531A519M402");
        five.step(0, 1);
        due.is("about(3)", five.about(3), 5);
    }

    // ---- promise 7

    private static void article() {
        due.of("7 UNKNOWN: there is no such ARTICLE");
        MulesRemember x = Due.withTreaty("MA111A222M333");
        for (int article : new int[] {-1, 2, 5, 32, LEAST, MOST}) {
            for (int what = 0; what <= 3; what++) {
                due.is("article(" + article + ", " + what + ")", x.article(article, what), UNKNOWN);
            }
        }
        due.of("7 BAD: what");
        for (int what : new int[] {-1, 4, LEAST, MOST}) {
            due.is("article(0, " + what + ")", x.article(0, what), BAD);
            due.is("article(1, " + what + ")", x.article(1, what), BAD);
        }
        due.of("7 UNKNOWN is told ahead of BAD");
        due.is("article(2, 4)", x.article(2, 4), UNKNOWN);
        due.is("article(-1, -1)", x.article(-1, -1), UNKNOWN);
        articleAtItsBounds();
    }

    private static void articleAtItsBounds() {
        due.of("7 an ARTICLE of the least and of the greatest STONE, SORT and v");
        MulesRemember x = Due.withTreaty("MA000A939A000A000A939");
        int[] most = {9, 3, 9};
        for (int what = 0; what <= 2; what++) {
            due.is("article(0, " + what + ")", x.article(0, what), 0);
            due.is("article(1, " + what + ")", x.article(1, what), most[what]);
            due.is("article(4, " + what + ")", x.article(4, what), most[what]);
        }
        due.of("7 MULES that know it (3: bits): none there are");
        due.is("article(0, 3)", x.article(0, 3), 0);
        due.of("7 MULES that know it (3: bits): foals do not");
        due.is("article(0, 3)", Due.withTreaty("MA000M002M002").article(0, 3), 0);
        due.of("7 MULES that know it (3: bits): all five");
        due.is("article(0, 3)", Due.withTreaty("MA000M001M000M003M001M001").article(0, 3), 0b11111);
        due.of("7 MULES that know it (3: bits): the last one alone");
        due.is("article(0, 3)", Due.withTreaty("MA000M002M002M002M002M001").article(0, 3), 0b10000);
    }

    // ---- promise 8

    private static void mule() {
        due.of("8 UNKNOWN: there is no such MULE");
        MulesRemember x = Due.withTreaty("MA111M222M333");
        for (int mule : new int[] {-1, 2, 5, 32, LEAST, MOST}) {
            for (int what = 0; what <= 4; what++) {
                due.is("mule(" + mule + ", " + what + ")", x.mule(mule, what), UNKNOWN);
            }
        }
        due.of("8 BAD: what");
        for (int what : new int[] {-1, 5, LEAST, MOST}) {
            due.is("mule(0, " + what + ")", x.mule(0, what), BAD);
            due.is("mule(1, " + what + ")", x.mule(1, what), BAD);
        }
        due.of("8 UNKNOWN is told ahead of BAD");
        due.is("mule(2, 5)", x.mule(2, 5), UNKNOWN);
        due.is("mule(-1, -1)", x.mule(-1, -1), UNKNOWN);
        due.of("8 a MULE at the least and at the greatest STONE, COAT and KIND");
        MulesRemember y = Due.withTreaty("MM000M933M000M000M933");
        int[] most = {9, 3, 3};
        for (int what = 0; what <= 2; what++) {
            due.is("mule(0, " + what + ")", y.mule(0, what), 0);
            due.is("mule(1, " + what + ")", y.mule(1, what), most[what]);
            due.is("mule(4, " + what + ")", y.mule(4, what), most[what]);
        }
        due.of("8 ARTICLES that it was SHOWN (3: bits): none at first, of each KIND");
        MulesRemember z = Due.withTreaty("M" + ARTICLES + "M000M001M002M003");
        for (int mule = 0; mule <= 3; mule++) {
            due.is("mule(" + mule + ", 3)", z.mule(mule, 3), 0);
        }
    }

    // ---- who knows what

    private static void knows() {
        for (int articles = 0; articles <= 5; articles++) {
            MulesRemember x = Due.withTreaty("M" + "A000".repeat(articles) + "M000M001M002M003");
            int all = (1 << articles) - 1;
            due.of("8 KNOWS: a PLAIN one those of even number, of " + articles);
            due.is("mule(0, 4)", x.mule(0, 4), all & 0b10101);
            due.of("8 KNOWS: an OLD one all ARTICLES, of " + articles);
            due.is("mule(1, 4)", x.mule(1, 4), all);
            due.of("8 KNOWS: a FOAL that was SHOWN none, of " + articles);
            due.is("mule(2, 4)", x.mule(2, 4), 0);
            due.of("8 KNOWS: a CIRCUS one the ARTICLE of greatest number alone, of " + articles);
            due.is("mule(3, 4)", x.mule(3, 4), articles == 0 ? 0 : 1 << articles - 1);
        }
        knowsWhenShownAll();
    }

    private static void knowsWhenShownAll() {
        MulesRemember x = Due.withTreaty("M" + ARTICLES + "M001M000M002M003M001");
        for (int mule = 1; mule <= 4; mule++) {
            for (int article = 0; article <= 4; article++) {
                x.show(mule, 0, article);
            }
        }
        String[] kinds = {"", "a PLAIN one", "a FOAL", "a CIRCUS one", "an OLD one"};
        for (int mule = 1; mule <= 4; mule++) {
            due.of("8 KNOWS: " + kinds[mule] + " that was SHOWN all");
            due.is("mule(" + mule + ", 3)", x.mule(mule, 3), 0b11111);
            due.is("mule(" + mule + ", 4)", x.mule(mule, 4), mule == 3 ? 0b10000 : 0b11111);
        }
        due.of("8 a CIRCUS one knows but the last, whatever it was SHOWN");
        x.sell(2);
        due.is("mule(2, 3)", x.mule(2, 3), 0b11111);
        due.is("mule(2, 4)", x.mule(2, 4), 0b10000);
    }

    // ---- what forbids a step

    private static void forbidsByCoat() {
        due.of("9 none may step onto s whose COAT is what is left of v by 4");
        for (int v = 0; v <= 9; v++) {
            MulesRemember x = Due.withTreaty("MA50" + v + "M400M410M620M630");
            for (int coat = 0; coat <= 3; coat++) {
                due.is("v " + v + ", coat " + coat, x.by(coat, coat < 2 ? 1 : 0), coat == v % 4 ? 1 : 0);
            }
        }
    }

    private static void forbidsByHour() {
        for (int v = 0; v <= 9; v++) {
            MulesRemember x = Due.withTreaty("MA51" + v + "M400M600");
            for (int hour = 0; hour <= 21; hour++) {
                due.of("9 only when what is left of THE HOUR by 10 is v or more, at hour " + hour);
                due.is("v " + v + ", up", x.by(0, 1), hour % 10 >= v ? 0 : 1);
                due.is("v " + v + ", down", x.by(1, 0), hour % 10 >= v ? 0 : 1);
                x.pause();
            }
        }
    }

    private static void forbidsByWay() {
        for (int v = 0; v <= 9; v++) {
            MulesRemember x = Due.withTreaty("MA52" + v + "M400M600");
            due.of("9 only from the south (up), if v is odd");
            due.is("v " + v + ", up", x.by(0, 1), v % 2 == 1 ? 0 : 1);
            due.of("9 only from the north (down), if it is even");
            due.is("v " + v + ", down", x.by(1, 0), v % 2 == 0 ? 0 : 1);
        }
    }

    /** So many others on stone 5, and the rest of four on stone 4. */
    private static String others(int many) {
        return "M500".repeat(many) + "M400".repeat(4 - many);
    }

    private static void forbidsByOthers() {
        due.of("9 only if as many other MULES as are left of v by 5, or more, stand on s or north of it");
        for (int v = 0; v <= 9; v++) {
            for (int many = 0; many <= 4; many++) {
                MulesRemember up = Due.withTreaty("MA53" + v + "M400" + others(many));
                due.is("v " + v + ", others " + many + ", up", up.by(0, 1), many >= v % 5 ? 0 : 1);
                MulesRemember down = Due.withTreaty("MA53" + v + "M600" + others(many));
                due.is("v " + v + ", others " + many + ", down", down.by(0, 0), many >= v % 5 ? 0 : 1);
            }
        }
        due.of("9 other MULES stand on s or north of it: each stone");
        for (int stone = 0; stone <= 9; stone++) {
            MulesRemember x = Due.withTreaty("MA531M400M" + stone + "00");
            due.is("another at " + stone, x.by(0, 1), stone >= 5 ? 0 : 1);
        }
        due.of("9 other MULES: itself set aside");
        due.is("down, alone", Due.withTreaty("MA531M600").by(0, 0), 1);
        due.is("up, alone", Due.withTreaty("MA531M400").by(0, 1), 1);
        due.of("9 other MULES: none at all, if none are left of v by 5");
        due.is("v 0", Due.withTreaty("MA530M400").by(0, 1), 0);
        due.is("v 5", Due.withTreaty("MA535M400").by(0, 1), 0);
    }

    private static void forbidsTheStoneAlone() {
        due.of("9 An ARTICLE FORBIDS, if it is of the STONE stepped onto");
        for (int from = 0; from <= 9; from++) {
            for (int of = 0; of <= 9; of++) {
                MulesRemember x = Due.withTreaty("MA" + of + "19M" + from + "00");
                int up = from == 9 ? LATE : of == from + 1 ? 1 : 0;
                int down = from == 0 ? LATE : of == from - 1 ? 1 : 0;
                due.is("of " + of + " from " + from + ", up", x.by(0, 1), up);
                due.is("of " + of + " from " + from + ", down", x.by(0, 0), down);
            }
        }
    }

    // ---- promises 9 and 10

    private static void by() {
        MulesRemember x = Due.withTreaty("MA819A119M002M902");
        due.of("9 UNKNOWN: there is no such MULE");
        for (int mule : new int[] {-1, 2, 5, LEAST, MOST}) {
            due.is("by(" + mule + ", 0)", x.by(mule, 0), UNKNOWN);
            due.is("by(" + mule + ", 1)", x.by(mule, 1), UNKNOWN);
        }
        due.of("9 BAD: way (0, 1)");
        for (int way : new int[] {-1, 2, LEAST, MOST}) {
            due.is("by(0, " + way + ")", x.by(0, way), BAD);
            due.is("by(1, " + way + ")", x.by(1, way), BAD);
        }
        due.of("9 UNKNOWN is told ahead of BAD");
        due.is("by(2, 2)", x.by(2, 2), UNKNOWN);
        due.is("by(-1, -1)", x.by(-1, -1), UNKNOWN);
        due.of("9 LATE: there is no STONE south of the first");
        due.is("by(0, 0)", x.by(0, 0), LATE);
        due.of("9 LATE: there is no STONE north of the last");
        due.is("by(1, 1)", x.by(1, 1), LATE);
        due.of("9 a STEP from the last STONES, within the ridge");
        due.is("by(0, 1)", x.by(0, 1), 0b10);
        due.is("by(1, 0)", x.by(1, 0), 0b01);
        due.of("9 a STEP onto the last STONES, within the ridge");
        MulesRemember onto = Due.withTreaty("MA019A919M102M802");
        due.is("by(0, 0)", onto.by(0, 0), 0b01);
        due.is("by(1, 1)", onto.by(1, 1), 0b10);
        due.of("9 BY as bits: none, all five, the last alone; whoever knows");
        due.is("none", Due.withTreaty("MM402").by(0, 1), 0);
        due.is("all", Due.withTreaty("MA519A519A519A519A519M402").by(0, 1), 0b11111);
        due.is("the last", Due.withTreaty("MA419A419A419A419A519M402").by(0, 1), 0b10000);
    }

    private static void balks() {
        MulesRemember x = Due.withTreaty("MA819A119M001M901");
        due.of("10 UNKNOWN: there is no such MULE");
        for (int mule : new int[] {-1, 2, 5, LEAST, MOST}) {
            due.is("balks(" + mule + ", 0)", x.balks(mule, 0), UNKNOWN);
            due.is("balks(" + mule + ", 1)", x.balks(mule, 1), UNKNOWN);
        }
        due.of("10 BAD: way");
        for (int way : new int[] {-1, 2, LEAST, MOST}) {
            due.is("balks(0, " + way + ")", x.balks(0, way), BAD);
            due.is("balks(1, " + way + ")", x.balks(1, way), BAD);
        }
        due.of("10 UNKNOWN is told ahead of BAD");
        due.is("balks(2, 2)", x.balks(2, 2), UNKNOWN);
        due.of("10 LATE: there is no STONE south of the first");
        due.is("balks(0, 0)", x.balks(0, 0), LATE);
        due.of("10 LATE: there is no STONE north of the last");
        due.is("balks(1, 1)", x.balks(1, 1), LATE);
        due.of("10 a STEP from the last STONES, within the ridge");
        due.is("balks(0, 1)", x.balks(0, 1), 1);
        due.is("balks(1, 0)", x.balks(1, 0), 0);
        balksByTheFirst();
    }

    private static void balksByTheFirst() {
        due.of("10 The first ARTICLE by which it BALKS, of all five");
        due.is("an old one", Due.withTreaty("MA519A519A519A519A519M401").balks(0, 1), 0);
        due.of("10 The first ARTICLE by which it BALKS: the last there is");
        due.is("a circus one", Due.withTreaty("MA519A519A519A519A519M403").balks(0, 1), 4);
        due.is("an old one", Due.withTreaty("MA419A419A419A419A519M401").balks(0, 1), 4);
        due.of("10 NONE: no ARTICLE forbids");
        due.is("an old one", Due.withTreaty("MA419M401").balks(0, 1), NONE);
        due.is("no articles", Due.withTreaty("MM401").balks(0, 1), NONE);
        due.of("10 NONE: it knows none that forbids");
        due.is("a foal", Due.withTreaty("MA519M402").balks(0, 1), NONE);
        due.is("a plain one", Due.withTreaty("MA419A519M400").balks(0, 1), NONE);
        due.is("a circus one", Due.withTreaty("MA519A419M403").balks(0, 1), NONE);
    }
}
