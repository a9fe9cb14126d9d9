/** Promises 26 to 29: councils at rest, foals that forget, the seed and the years. */
public final class ChancesTest {
    private static final int BAD = -2;
    private static final Due due = new Due();

    /** Seeds that become, by one year, a number whose lot is the place in the row; of the second row it is less than 0. */
    private static final long[] SEEDS = {224, 87, 1, 204, 70, 52, 264, 50, 23, 244, 30, 0};
    private static final long[] SEEDS_BELOW = {147, 10, 341, 127, 2, 321, 107, 65, 304, 167, 39, 361};

    public static void main(String[] args) {
        rests();
        forgets();
        forgetsByTenths();
        whoForgets();
        forgetsRefusals();
        seed();
        yearsOfOneLot();
        yearsInARow();
        yearsRefusals();
        due.end();
    }

    private static void restsAre(String text, int count, int first) {
        MulesRemember x = Due.withTreaty(text);
        due.is(text + " rests(0)", x.rests(0), count);
        due.is(text + " rests(1)", x.rests(1), first);
    }

    private static void rests() {
        restsAre("M", 2, 0);
        restsAre("MM401", 1, 11);
        restsAre("MM401M201", 1, 11);
        restsAre("MA520M402", 1, 11);
        restsAre("MA520M401M201", 2, 0);
        restsAre("MA520M401", 2, 0);
        restsAre("MA520M401M401", 2, 0);
        restsAre("MA520M401M401M401", 2, 0);
        restsAre("MA520M401M401M401M401", 1, 0);
        restsAre("MA520M401M401M401M401M401", 1, 0);
        restsAre("MM901", 2, 0);
        restsAre("MM901M401", 1, 11);
        restsAre("MA520M901M401M401M401M401", 1, 0);
        MulesRemember x = new MulesRemember();
        due.is("rests(-1)", x.rests(-1), BAD);
        due.is("rests(2)", x.rests(2), BAD);
    }

    private static void forgetsIs(MulesRemember x, int way, int m, int tenths, int upper, int lower) {
        String call = "forgets(" + way + ", " + m + ", " + tenths + ", ";
        due.is(call + "true)", x.forgets(way, m, tenths, true), upper);
        due.is(call + "false)", x.forgets(way, m, tenths, false), lower);
    }

    private static void forgets() {
        MulesRemember none = new MulesRemember();
        forgetsIs(none, 0, 0, 5, 1, 1);
        forgetsIs(none, 1, 1, 5, 0, 1);
        forgetsIs(none, 1, 5, 10, 0, 1);
        MulesRemember x = Due.withTreaty("MA520M402M402M401");
        x.show(0, 2, 0);
        x.show(1, 2, 0);
        forgetsIs(x, 1, 0, 3, 1, 1);
        forgetsIs(x, 1, 1, 3, 1, 1);
        forgetsIs(x, 1, 2, 3, 91, 100);
        forgetsIs(x, 1, 3, 3, 49, 100);
        forgetsIs(x, 1, 4, 3, 0, 1);
        forgetsIs(x, 0, 0, 3, 1, 1);
        forgetsIs(x, 0, 1, 3, 0, 1);
        due.is("nothing is forgotten", x.mule(0, 3), 1);
        due.is("acts", x.about(4), 2);
    }

    private static void forgetsByTenths() {
        MulesRemember x = Due.withTreaty("MA520M402M402M401M402M402");
        x.show(0, 2, 0);
        x.show(1, 2, 0);
        forgetsIs(x, 1, 3, 0, 1, 1);
        forgetsIs(x, 1, 2, 10, 0, 1);
        forgetsIs(x, 1, 1, 10, 1, 1);
        forgetsIs(x, 1, 2, 5, 3, 4);
        forgetsIs(x, 1, 3, 5, 1, 4);
        x.show(3, 2, 0);
        x.show(4, 2, 0);
        forgetsIs(x, 1, 5, 1, 6561, 10000);
        forgetsIs(x, 1, 5, 9, 1, 10000);
        forgetsIs(x, 1, 2, 4, 609, 625);
    }

    private static void whoForgets() {
        MulesRemember plain = Due.withTreaty("MA520M400M401");
        plain.show(0, 1, 0);
        forgetsIs(plain, 1, 2, 7, 1, 1);
        MulesRemember circus = Due.withTreaty("MA520A119M403M401");
        circus.show(0, 1, 0);
        forgetsIs(circus, 1, 1, 7, 1, 1);
        forgetsIs(circus, 1, 2, 7, 0, 1);
        MulesRemember end = Due.withTreaty("MA819M902M901");
        end.show(0, 1, 0);
        forgetsIs(end, 0, 2, 7, 3, 10);
        forgetsIs(end, 1, 1, 7, 0, 1);
        forgetsIs(end, 1, 0, 7, 1, 1);
        MulesRemember both = Due.withTreaty("MA520A512M402M401M402");
        both.show(0, 1, 0);
        both.show(0, 1, 1);
        forgetsIs(both, 1, 2, 4, 3, 5);
        forgetsIs(both, 1, 3, 4, 0, 1);
        MulesRemember other = Due.withTreaty("MA520A910M402M401");
        other.show(0, 1, 1);
        forgetsIs(other, 1, 2, 4, 0, 1);
    }

    private static void forgetsRefusals() {
        MulesRemember x = Due.withTreaty("MM402");
        due.is("way", x.forgets(-1, 0, 0, true), BAD);
        due.is("way", x.forgets(2, 0, 0, true), BAD);
        due.is("m", x.forgets(0, -1, 0, true), BAD);
        due.is("m", x.forgets(0, 6, 0, false), BAD);
        due.is("x", x.forgets(0, 0, -1, true), BAD);
        due.is("x", x.forgets(0, 0, 11, true), BAD);
    }

    private static void seed() {
        MulesRemember x = new MulesRemember();
        due.is("at first", x.seed(Long.MIN_VALUE), 0);
        due.is("the least", x.seed(Long.MAX_VALUE), Long.MIN_VALUE);
        due.is("the most", x.seed(-7), Long.MAX_VALUE);
        due.is("below 0", x.seed(0), -7);
        x.years(1);
        due.is("0, after a year", x.seed(0), 1442695040888963407L);
        x.years(2);
        due.is("0, after two", x.seed(-7), 1876011003808476466L);
        x.years(1);
        due.is("-7, after a year", x.seed(Long.MAX_VALUE), -6212770378619484396L);
        x.years(1);
        due.is("the most, after a year", x.seed(0), 4301930853896946210L);
    }

    private static void yearIs(String text, long seed, int want) {
        MulesRemember x = Due.withTreaty(text);
        x.seed(seed);
        due.is(text + " years(1) of seed " + seed, x.years(1), want);
    }

    private static void yearsOfOneLot() {
        String foals = "M402M402M402M402M402";
        for (int lot = 0; lot < 12; lot++) {
            for (long seed : new long[] {SEEDS[lot], SEEDS_BELOW[lot]}) {
                yearIs("MA520A321" + foals, seed, lot < 10 ? 1 : 0);
                yearIs("MA520" + foals, seed, lot < 10 ? lot % 2 : 0);
                yearIs("MA520A500M402M402M402", seed, lot < 6 && lot % 2 == 1 ? 2 : 0);
                yearIs("MA520M401M400M402", seed, lot == 5 ? 1 : 0);
                yearIs("MA119A819M002M902", seed, lot == 1 || lot == 2 ? 1 : 0);
            }
        }
    }

    private static void yearsAre(String text, long seed, int years, int want) {
        MulesRemember x = Due.withTreaty(text);
        x.seed(seed);
        due.is(text + " years(" + years + ") of seed " + seed, x.years(years), want);
        due.is("hour stays", x.about(2), 0);
        due.is("broken stays", x.about(3), 0);
        due.is("acts stay", x.about(4), 0);
        due.is("stone stays", x.mule(0, 0), 4);
    }

    private static void yearsInARow() {
        yearsAre("MA511M402", 376, 2, 0);
        yearsAre("MA511M402", 33, 2, 0);
        yearsAre("MA511M402", 439, 2, 0);
        yearsAre("MA511M401M402", 31, 2, 0);
        yearsAre("MA512M401M402", 31, 2, 1);
        yearsAre("MA511M402M402", 31, 2, 1);
        yearsAre("MA519A619M402", 25, 2, 2);
        yearsAre("MA519A411M402", 16, 2, 1);
        yearsAre("MA519A419M402", 674, 3, 3);
        yearsAre("MA520M402", 10, 10, 1);
        MulesRemember x = Due.withTreaty("MA519A419M402");
        x.step(0, 1);
        x.seed(16);
        due.is("more than before", x.years(1), 0);
        due.is("broken before", x.about(3), 1);
        due.is("hour before", x.about(2), 1);
        due.is("acts before", x.about(4), 1);
    }

    private static void yearsRefusals() {
        MulesRemember x = new MulesRemember();
        x.seed(3);
        due.is("years(0)", x.years(0), BAD);
        due.is("years(-1)", x.years(-1), BAD);
        due.is("years(31)", x.years(31), BAD);
        due.is("the seed stays", x.seed(3), 3);
        due.is("years(30)", x.years(30), 0);
    }
}
