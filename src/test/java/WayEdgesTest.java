/** Promises 17 to 22 at their bounds: twelve steps and waits, the ends of the ridge, told figures, least terms. */
public final class WayEdgesTest {
    private static final int UNKNOWN = -1, BAD = -2, LATE = -3, NONE = -9;
    private static final int LEAST = Integer.MIN_VALUE, MOST = Integer.MAX_VALUE;
    private static final Due due = new Due();

    public static void main(String[] args) {
        wayRefused();
        wayOfNoStep();
        wayFromEndToEnd();
        wayOfTwelve();
        wayOverTheTenthHour();
        wayIsBarred();
        enclaves();
        enclavesOfTwelve();
        teachNothing();
        teachFewest();
        teachNone();
        differ();
        judgeRefused();
        judgePlaces();
        judgeFigures();
        judgeAtBounds();
        judgeGoesOn();
        share();
        shareInLeastTerms();
        due.end();
    }

    // ---- promise 17

    private static void wayRefused() {
        MulesRemember x = Due.withTreaty("MM402M402");
        for (boolean honest : new boolean[] {false, true}) {
            due.of("17 UNKNOWN: mule");
            for (int mule : new int[] {-1, 2, 5, LEAST, MOST}) {
                due.is("way(" + mule + ", 4, " + honest + ")", x.way(mule, 4, honest), UNKNOWN);
            }
            due.of("17 UNKNOWN: stone");
            for (int stone : new int[] {-1, 10, 32, LEAST, MOST}) {
                due.is("way(0, " + stone + ", " + honest + ")", x.way(0, stone, honest), UNKNOWN);
            }
            due.of("17 STONES are 0 .. 9");
            due.is("way(0, 0, " + honest + ")", x.way(0, 0, honest), 4);
            due.is("way(1, 9, " + honest + ")", x.way(1, 9, honest), 5);
        }
        due.of("17 UNKNOWN: there are no mules at all");
        due.is("way(0, 0, false)", new MulesRemember().way(0, 0, false), UNKNOWN);
    }

    private static void wayOfNoStep() {
        due.of("17 WAY: 0, where it stands, whatever forbids to step there");
        for (int stone = 0; stone <= 9; stone++) {
            MulesRemember x = Due.withTreaty("MA" + stone + "19M" + stone + "01");
            due.is("way(0, " + stone + ", false)", x.way(0, stone, false), 0);
            due.is("way(0, " + stone + ", true)", x.way(0, stone, true), 0);
        }
    }

    private static void wayFromEndToEnd() {
        due.of("17 WAY from end to end");
        MulesRemember x = Due.withTreaty("MM002M902");
        for (int stone = 0; stone <= 9; stone++) {
            due.is("way(0, " + stone + ", false)", x.way(0, stone, false), stone);
            due.is("way(0, " + stone + ", true)", x.way(0, stone, true), stone);
            due.is("way(1, " + stone + ", false)", x.way(1, stone, false), 9 - stone);
            due.is("way(1, " + stone + ", true)", x.way(1, stone, true), 9 - stone);
        }
    }

    /** The hour opens stone 5 in the tenth step or wait alone. */
    private static void wayOfTwelve() {
        MulesRemember x = Due.withTreaty("MA519M401M402");
        due.of("17 WAY: 12 at most");
        due.is("way(0, 5, false)", x.way(0, 5, false), 10);
        due.is("way(0, 6, false)", x.way(0, 6, false), 11);
        due.is("way(0, 7, false)", x.way(0, 7, false), 12);
        due.of("17 WAY: NONE, thirteen are too many");
        due.is("way(0, 8, false)", x.way(0, 8, false), NONE);
        due.is("way(0, 9, false)", x.way(0, 9, false), NONE);
        due.of("17 HONEST: 12 at most");
        due.is("way(1, 7, true)", x.way(1, 7, true), 12);
        due.of("17 HONEST: NONE, thirteen are too many");
        due.is("way(1, 8, true)", x.way(1, 8, true), NONE);
        due.of("17 WAY, where HONEST is NONE");
        due.is("way(1, 8, false)", x.way(1, 8, false), 4);
        due.of("17 WAY to the south: 12 at most");
        MulesRemember y = Due.withTreaty("MA519M601");
        due.is("way(0, 3, false)", y.way(0, 3, false), 12);
        due.is("way(0, 2, false)", y.way(0, 2, false), NONE);
    }

    private static void wayOverTheTenthHour() {
        due.of("17 WAY: THE HOUR by 10 begins anew on it");
        MulesRemember x = Due.withTreaty("MA519M401M301");
        Due.pauses(x, 8);
        due.is("way(0, 5, false) at hour 8", x.way(0, 5, false), 2);
        due.is("way(1, 5, false) at hour 8", x.way(1, 5, false), 2);
        x.pause();
        due.is("way(0, 5, false) at hour 9", x.way(0, 5, false), 1);
        due.is("way(1, 5, false) at hour 9", x.way(1, 5, false), 11);
        due.is("way(1, 6, false) at hour 9", x.way(1, 6, false), 12);
        due.is("way(1, 7, false) at hour 9", x.way(1, 7, false), NONE);
        x.pause();
        due.is("way(0, 5, false) at hour 10", x.way(0, 5, false), 10);
    }

    private static void wayIsBarred() {
        due.of("17 WAY: NONE, it BALKS however long it waits");
        MulesRemember x = Due.withTreaty("MA524A321M401M402M202");
        due.is("way(0, 5, false)", x.way(0, 5, false), NONE);
        due.is("way(0, 3, false)", x.way(0, 3, false), NONE);
        due.of("17 WAY: a FOAL does not BALK");
        due.is("way(1, 5, false)", x.way(1, 5, false), 1);
        due.of("17 HONEST: NONE, an ARTICLE FORBIDS, whoever knows");
        due.is("way(1, 5, true)", x.way(1, 5, true), NONE);
        due.is("way(2, 5, true)", x.way(2, 5, true), NONE);
        due.is("way(2, 4, true)", x.way(2, 4, true), 2);
        due.of("17 WAY of it alone: others stay where they are");
        MulesRemember y = Due.withTreaty("MA531M401M402");
        due.is("way(0, 5, false)", y.way(0, 5, false), NONE);
        y.step(1, 1);
        due.is("way(0, 5, false)", y.way(0, 5, false), 1);
        due.of("17 nothing is changed");
        due.is("about(2)", y.about(2), 1);
        due.is("about(4)", y.about(4), 1);
        due.is("mule(0, 0)", y.mule(0, 0), 4);
    }

    // ---- promise 18

    private static void enclaves() {
        due.of("18 UNKNOWN: there is no such MULE");
        MulesRemember x = Due.withTreaty("MM401M901");
        for (int mule : new int[] {-1, 2, 5, LEAST, MOST}) {
            due.is("enclaves(" + mule + ")", x.enclaves(mule), UNKNOWN);
        }
        due.of("18 ENCLAVES: none, the whole ridge within 12");
        due.is("enclaves(0)", x.enclaves(0), 0);
        due.is("enclaves(1)", x.enclaves(1), 0);
        due.of("18 ENCLAVES: all but its own");
        due.is("in the middle", Due.withTreaty("MA520A321M401").enclaves(0), 0b1111101111);
        due.is("at the south end", Due.withTreaty("MA120M001").enclaves(0), 0b1111111110);
        due.is("at the north end", Due.withTreaty("MA821M901").enclaves(0), 0b0111111111);
        due.of("18 ENCLAVES: its own set aside, though none may step there");
        due.is("in the middle", Due.withTreaty("MA420A421M401").enclaves(0), 0);
        due.of("18 ENCLAVES of the last STONES alone");
        due.is("the first", Due.withTreaty("MA021M401").enclaves(0), 0b0000000001);
        due.is("the last", Due.withTreaty("MA920M401").enclaves(0), 0b1000000000);
        due.of("18 ENCLAVES of a MULE that knows no ARTICLE");
        due.is("a foal", Due.withTreaty("MA520A321M402").enclaves(0), 0);
    }

    private static void enclavesOfTwelve() {
        MulesRemember x = Due.withTreaty("MA519M401");
        due.of("18 ENCLAVES: within 12, and not 13");
        due.is("at hour 0", x.enclaves(0), 0b1100000000);
        x.pause();
        due.is("at hour 1", x.enclaves(0), 0b1000000000);
        x.pause();
        due.is("at hour 2", x.enclaves(0), 0);
        Due.pauses(x, 7);
        due.is("at hour 9", x.enclaves(0), 0);
        due.of("18 ENCLAVES: THE HOUR by 10 begins anew");
        x.pause();
        due.is("at hour 10", x.enclaves(0), 0b1100000000);
        due.of("18 ENCLAVES to the south: within 12, and not 13");
        due.is("at hour 0", Due.withTreaty("MA519M601").enclaves(0), 0b0000000111);
    }

    // ---- promise 19

    private static void teachNothing() {
        due.of("19 UNKNOWN: there is no such MULE");
        MulesRemember x = Due.withTreaty("MA519A319M402M401M702");
        for (int mule : new int[] {-1, 3, 5, LEAST, MOST}) {
            due.is("teach(" + mule + ")", x.teach(mule), UNKNOWN);
        }
        due.of("19 TEACH 0: it does, an OLD one");
        due.is("teach(1)", x.teach(1), 0);
        due.of("19 TEACH 0: none of its two STEPS is FORBIDDEN");
        due.is("teach(2)", x.teach(2), 0);
        due.of("19 TEACH 0: there are no ARTICLES");
        due.is("teach(0)", Due.withTreaty("MM402").teach(0), 0);
        due.of("19 TEACH 0: it was SHOWN what it takes");
        x.show(0, 1, 0);
        x.show(0, 1, 1);
        due.is("teach(0)", x.teach(0), 0);
        due.of("19 TEACH 0: it BALKS at each by one of many");
        due.is("a plain one", Due.withTreaty("MA519A519A319A319M400").teach(0), 0);
        due.of("19 nothing is SHOWN");
        MulesRemember y = Due.withTreaty("MA519M402");
        due.is("teach(0)", y.teach(0), 1);
        due.is("teach(0)", y.teach(0), 1);
        due.is("mule(0, 3)", y.mule(0, 3), 0);
        due.is("about(4)", y.about(4), 0);
    }

    private static void teachFewest() {
        due.of("19 TEACH: one for each STEP that is FORBIDDEN");
        due.is("up", Due.withTreaty("MA519M402").teach(0), 0b1);
        due.is("down", Due.withTreaty("MA319M402").teach(0), 0b1);
        due.is("both", Due.withTreaty("MA319A519M402").teach(0), 0b11);
        due.of("19 TEACH: of like ones the least");
        due.is("of five up", Due.withTreaty("MA519A519A519A519A519M402").teach(0), 0b00001);
        due.is("of two and three", Due.withTreaty("MA519A519A319A319A319M402").teach(0), 0b00101);
        due.is("of three and two", Due.withTreaty("MA919A519A319A519A319M402").teach(0), 0b00110);
        due.of("19 TEACH: the greatest number alone");
        due.is("the fifth", Due.withTreaty("MA919A919A919A919A519M402").teach(0), 0b10000);
        due.is("the fourth and the fifth", Due.withTreaty("MA919A919A919A319A519M402").teach(0), 0b11000);
        due.of("19 TEACH: that it does not KNOW");
        due.is("a plain one", Due.withTreaty("MA319A519M400").teach(0), 0b10);
        due.of("19 TEACH: as it is FORBIDDEN now");
        MulesRemember x = Due.withTreaty("MA511A319M402");
        due.is("teach(0) at hour 0", x.teach(0), 0b11);
        x.pause();
        due.is("teach(0) at hour 1", x.teach(0), 0b10);
        due.of("19 TEACH: one STEP alone at the ends of the ridge");
        due.is("south", Due.withTreaty("MA019A119A919M002").teach(0), 0b010);
        due.is("north", Due.withTreaty("MA919A819A019M902").teach(0), 0b010);
        due.is("south, none is forbidden", Due.withTreaty("MA019A919M002").teach(0), 0);
        due.is("north, none is forbidden", Due.withTreaty("MA019A919M902").teach(0), 0);
    }

    private static void teachNone() {
        due.of("19 NONE: by none, of a CIRCUS one");
        due.is("teach(0)", Due.withTreaty("MA519A919M403").teach(0), NONE);
        due.is("teach(0), down", Due.withTreaty("MA319A919M403").teach(0), NONE);
        due.of("19 NONE: by none, a CIRCUS one knows but one of the two");
        due.is("teach(0)", Due.withTreaty("MA319A519M403").teach(0), NONE);
        due.of("19 NONE: by none, of a sold one, whatever it was SHOWN");
        MulesRemember x = Due.withTreaty("MA519A919M402M401");
        x.show(0, 1, 0);
        due.is("teach(0)", x.teach(0), 0);
        x.sell(0);
        due.is("teach(0)", x.teach(0), NONE);
        x.undo();
        due.is("teach(0)", x.teach(0), 0);
        due.of("19 TEACH 0 of a CIRCUS one: it does");
        due.is("its own article", Due.withTreaty("MA919A519M403").teach(0), 0);
        due.is("none is forbidden", Due.withTreaty("MA519A919M103").teach(0), 0);
        due.is("no articles", Due.withTreaty("MM403").teach(0), 0);
    }

    // ---- promise 20

    private static void differ() {
        MulesRemember x = Due.withTreaty("MA000A000A000A000A000M400M401M402M403M402");
        due.of("20 UNKNOWN: mule");
        for (int mule : new int[] {-1, 5, LEAST, MOST}) {
            due.is("differ(" + mule + ", 0)", x.differ(mule, 0), UNKNOWN);
        }
        due.of("20 UNKNOWN: other");
        for (int other : new int[] {-1, 5, LEAST, MOST}) {
            due.is("differ(0, " + other + ")", x.differ(0, other), UNKNOWN);
        }
        due.is("differ(5, 5)", x.differ(5, 5), UNKNOWN);
        due.of("20 NONE: a MULE and itself");
        for (int mule = 0; mule <= 4; mule++) {
            due.is("differ(" + mule + ", " + mule + ")", x.differ(mule, mule), NONE);
        }
        due.of("20 NONE: two that KNOW as much");
        due.is("differ(2, 4)", x.differ(2, 4), NONE);
        due.of("20 NONE: there are no ARTICLES");
        due.is("differ(0, 1)", Due.withTreaty("MM401M402").differ(0, 1), NONE);
        due.of("20 DIFFER: the first ARTICLE");
        due.is("foal, old", x.differ(2, 1), 0);
        due.of("20 DIFFER: the last ARTICLE");
        due.is("foal, circus", x.differ(2, 3), 4);
        due.of("20 DIFFER: or the other way round");
        due.is("old, foal", x.differ(1, 2), 0);
        due.is("circus, foal", x.differ(3, 2), 4);
        due.of("20 DIFFER: what each one KNOWS, not what it was SHOWN");
        x.show(1, 0, 0);
        due.is("differ(0, 1)", x.differ(0, 1), 1);
        x.show(0, 1, 1);
        due.is("differ(0, 1)", x.differ(0, 1), 3);
        x.show(0, 1, 3);
        due.is("differ(0, 1)", x.differ(0, 1), NONE);
    }

    // ---- promise 21

    private static void judgeRefused() {
        MulesRemember x = Due.withTreaty("MM402");
        due.of("21 BAD: n (1 .. 4)");
        for (int n : new int[] {0, -1, 5, LEAST, MOST}) {
            due.is("judge(" + n + ", 0)", x.judge(n, 0), BAD);
        }
        due.of("21 BAD: row (0 or more)");
        for (int n = 1; n <= 4; n++) {
            due.is("judge(" + n + ", -1)", x.judge(n, -1), BAD);
            due.is("judge(" + n + ", least)", x.judge(n, LEAST), BAD);
        }
        int[] least = {100, 10000, 1000000, 100000000};
        for (int n = 1; n <= 4; n++) {
            due.of("21 BAD: row (2 n figures at most), of n " + n);
            due.is("judge(" + n + ", " + least[n - 1] + ")", x.judge(n, least[n - 1]), BAD);
            due.is("judge(" + n + ", most)", x.judge(n, MOST), BAD);
            due.of("21 row of 2 n figures, of n " + n);
            due.is("judge(" + n + ", " + (least[n - 1] - 1) + ")", x.judge(n, least[n - 1] - 1), 0);
            due.of("21 row 0, of n " + n);
            due.is("judge(" + n + ", 0)", x.judge(n, 0), NONE);
        }
        due.of("21 with no mules at all");
        MulesRemember none = new MulesRemember();
        due.is("judge(4, 0)", none.judge(4, 0), NONE);
        due.is("judge(1, 10)", none.judge(1, 10), 0);
        due.is("judge(1, 60)", none.judge(1, 60), 0);
        due.is("judge(1, 70)", none.judge(1, 70), 0);
    }

    private static void judgePlaces() {
        MulesRemember x = Due.withTreaty("MM402");
        due.of("21 the place (from 0) of the first that can not be");
        due.is("judge(4, 99000000)", x.judge(4, 99000000), 0);
        due.is("judge(4, 990000)", x.judge(4, 990000), 1);
        due.is("judge(4, 9900)", x.judge(4, 9900), 2);
        due.is("judge(4, 99)", x.judge(4, 99), 3);
        due.is("judge(4, 99999999)", x.judge(4, 99999999), 0);
        due.is("judge(4, 999999)", x.judge(4, 999999), 1);
        due.is("judge(1, 99)", x.judge(1, 99), 0);
        due.is("judge(2, 99)", x.judge(2, 99), 1);
        due.is("judge(3, 99)", x.judge(3, 99), 2);
        due.of("21 the place of the first that BREAKS");
        MulesRemember y = Due.withTreaty("MA520M402");
        due.is("judge(4, 11000000)", y.judge(4, 11000000), 0);
        due.is("judge(4, 11)", y.judge(4, 11), 3);
        due.of("21 the place of the first at which it BALKS");
        MulesRemember z = Due.withTreaty("MA520M401");
        due.is("judge(4, 11)", z.judge(4, 11), 3);
        due.of("21 NONE: all four can be");
        due.is("judge(4, 10101010)", x.judge(4, 10101010), NONE);
        due.of("21 the first doing's figures are the highest");
        due.is("judge(2, 6010)", x.judge(2, 6010), NONE);
        due.is("judge(2, 1099)", x.judge(2, 1099), 1);
        due.is("judge(2, 9910)", x.judge(2, 9910), 0);
    }

    /** Every two figures told of five mules, the fifth of a circus, the first shown. */
    private static void judgeFigures() {
        MulesRemember x = Due.withTreaty("MA919M402M401M401M402M403");
        x.show(0, 1, 0);
        for (int row = 0; row <= 99; row++) {
            int one = row / 10;
            int two = row % 10;
            boolean canBe;
            switch (one) {
                case 0: due.of("21 0 and 0: WAITED, no others"); canBe = two == 0; break;
                case 6: due.of("21 6 and a MULE: SOLD"); canBe = two <= 3; break;
                case 7: due.of("21 7 and a MULE: FORGOT"); canBe = two == 0; break;
                case 8: case 9: due.of("21 8, 9: no doing"); canBe = false; break;
                default: due.of("21 1 .. 5 and 0 or 1: a MULE STEPS"); canBe = two <= 1; break;
            }
            due.is("judge(1, " + row + ")", x.judge(1, row), canBe ? NONE : 0);
        }
    }

    private static void judgeAtBounds() {
        due.of("21 1 .. 5: that MULE less 1, if there is such a one");
        MulesRemember x = Due.withTreaty("MM402M402M402M402");
        due.is("judge(1, 41)", x.judge(1, 41), NONE);
        due.is("judge(1, 51)", x.judge(1, 51), 0);
        due.is("judge(1, 63)", x.judge(1, 63), NONE);
        due.is("judge(1, 64)", x.judge(1, 64), 0);
        due.of("21 STEPS within the ridge");
        MulesRemember y = Due.withTreaty("MM002M902M102M802");
        due.is("judge(1, 10)", y.judge(1, 10), 0);
        due.is("judge(1, 21)", y.judge(1, 21), 0);
        due.is("judge(2, 3030)", y.judge(2, 3030), 1);
        due.is("judge(2, 4141)", y.judge(2, 4141), 1);
        due.is("judge(4, 11203041)", y.judge(4, 11203041), NONE);
        due.of("21 SOLD can not be: it is CIRCUS");
        due.is("judge(1, 60)", Due.withTreaty("MM403").judge(1, 60), 0);
        due.is("judge(2, 6060)", Due.withTreaty("MM402").judge(2, 6060), 1);
        due.of("21 FORGOT can not be: it was SHOWN none");
        MulesRemember z = Due.withTreaty("MA000M402M401");
        due.is("judge(1, 70)", z.judge(1, 70), 0);
        due.is("judge(1, 71)", z.judge(1, 71), 0);
        z.show(0, 1, 0);
        due.is("judge(1, 70)", z.judge(1, 70), NONE);
        due.is("judge(2, 7070)", z.judge(2, 7070), 1);
    }

    private static void judgeGoesOn() {
        due.of("21 each doing as the ones ahead of it left THE HOUR");
        MulesRemember x = Due.withTreaty("MA513M402M802");
        due.is("two waits", x.judge(3, 11), 2);
        due.is("three waits", x.judge(4, 11), NONE);
        due.is("a wait, and steps of another", x.judge(4, 202111), NONE);
        due.is("sales are no waits", x.judge(4, 60610011), 3);
        due.of("21 THE HOUR by 10 begins anew");
        Due.pauses(x, 8);
        due.is("at hour 9", x.judge(2, 11), NONE);
        x.pause();
        due.is("at hour 10", x.judge(2, 11), 1);
        due.of("21 each doing as the ones ahead of it left the MULES");
        MulesRemember y = Due.withTreaty("MA531M402M402M502");
        due.is("one is there", y.judge(1, 11), NONE);
        due.is("it went north", y.judge(2, 3111), NONE);
        due.is("it went south", y.judge(2, 3011), 1);
        due.of("21 nothing is changed");
        due.is("mule(2, 0)", y.mule(2, 0), 5);
        due.is("about(2)", y.about(2), 0);
        due.is("about(4)", y.about(4), 0);
        due.is("undo()", y.undo(), LATE);
    }

    // ---- promise 22

    private static void shareIs(MulesRemember x, int article, int upper, int lower) {
        due.is("share(" + article + ", true)", x.share(article, true), upper);
        due.is("share(" + article + ", false)", x.share(article, false), lower);
    }

    private static void share() {
        due.of("22 UNKNOWN: there is no such ARTICLE");
        MulesRemember x = Due.withTreaty("MA519A519M402");
        for (int article : new int[] {-1, 2, 5, 32, LEAST, MOST}) {
            due.is("share(" + article + ", true)", x.share(article, true), UNKNOWN);
            due.is("share(" + article + ", false)", x.share(article, false), UNKNOWN);
        }
        due.of("22 SHARE: none, a FRACTION of 0");
        shareIs(Due.withTreaty("MA919A519M402"), 0, 0, 1);
        due.of("22 SHARE: there are no MULES");
        shareIs(Due.withTreaty("MA519"), 0, 0, 1);
        due.of("22 SHARE: an ARTICLE alone");
        shareIs(Due.withTreaty("MA519M402"), 0, 1, 1);
        due.of("22 SHARE: of all MULES, up and down");
        shareIs(Due.withTreaty("MA519M402M402M601M603M600"), 0, 5, 1);
        due.of("22 SHARE: within the ridge");
        shareIs(Due.withTreaty("MA019M002M102"), 0, 1, 1);
        shareIs(Due.withTreaty("MA919M902M802"), 0, 1, 1);
        due.of("22 SHARE: that are FORBIDDEN now");
        MulesRemember y = Due.withTreaty("MA511A519M402");
        shareIs(y, 0, 1, 2);
        y.pause();
        shareIs(y, 0, 0, 1);
        shareIs(y, 1, 1, 1);
    }

    private static void shareInLeastTerms() {
        for (int many = 1; many <= 5; many++) {
            due.of("22 SHARE of one of like ARTICLES, " + many + " of them");
            String articles = "A519".repeat(many);
            shareIs(Due.withTreaty("M" + articles + "M402"), 0, 1, many);
            shareIs(Due.withTreaty("M" + articles + "M402"), many - 1, 1, many);
        }
        due.of("22 SHARE in least terms");
        shareIs(Due.withTreaty("MA519A519A519A519M402M402"), 0, 1, 2);
        shareIs(Due.withTreaty("MA519A519M402M602"), 1, 1, 1);
        shareIs(Due.withTreaty("MA519A519A519M402M402M402M402"), 2, 4, 3);
        due.of("22 SHARE: a sum of unlike parts");
        MulesRemember x = Due.withTreaty("MA519A500A501A505M402M412");
        shareIs(x, 0, 5, 6);
        shareIs(x, 1, 1, 2);
        shareIs(x, 2, 1, 3);
        shareIs(x, 3, 1, 3);
    }
}
