/** Promises 26 to 29 at their bounds: councils, tenths, the seed that wraps around, the years and their lots. */
public final class ChanceEdgesTest {
    private static final int BAD = -2, NONE = -9;
    private static final int LEAST = Integer.MIN_VALUE, MOST = Integer.MAX_VALUE;
    private static final long TIMES = 6364136223846793005L, MORE = 1442695040888963407L;
    private static final Due due = new Due();

    public static void main(String[] args) {
        restsRefused();
        restsOfEachString();
        restsAtTheLastStone();
        forgetsRefused();
        forgetsNone();
        forgetsByEachTenth();
        forgetsCounts();
        forgetsWho();
        seedAtBounds();
        seedWraps();
        yearsRefused();
        yearsMoveTheSeed();
        yearsOfEachLot();
        yearsThatWait();
        yearsGoOn();
        yearsChangeNothing();
        due.end();
    }

    // ---- promise 26

    private static void restsRefused() {
        due.of("26 BAD");
        MulesRemember x = Due.withTreaty("MM401");
        for (int what : new int[] {-1, 2, LEAST, MOST}) {
            due.is("rests(" + what + ")", x.rests(what), BAD);
            due.is("new: rests(" + what + ")", new MulesRemember().rests(what), BAD);
        }
    }

    /** Old ones on stone 4, some of them at an article that forbids their step up, and those that would go. */
    private static MulesRemember string(int go, int balk, int aside) {
        return Due.withTreaty("MA519" + "M201".repeat(go) + "M401".repeat(balk) + "M901".repeat(aside));
    }

    private static void restsOfEachString() {
        for (int go = 0; go <= 5; go++) {
            for (int balk = 0; go + balk <= 5; balk++) {
                int worth = go - balk;
                due.of("26 RESTS of two councils by a string of worth " + worth);
                MulesRemember x = string(go, balk, 0);
                boolean bothSend = worth > -4;
                boolean bothKeep = worth <= 0;
                due.is("rests(0)", x.rests(0), (bothSend ? 1 : 0) + (bothKeep ? 1 : 0));
                due.is("rests(1)", x.rests(1), bothKeep ? 0 : 11);
            }
        }
        due.of("26 half of that (cut towards 0): of -3 it is -1");
        due.is("rests(0)", string(0, 3, 0).rests(0), 2);
        due.of("26 half of that: of -4 it is -2");
        due.is("rests(0)", string(0, 4, 0).rests(0), 1);
        due.of("26 RESTS: there are no MULES");
        due.is("rests(0)", new MulesRemember().rests(0), 2);
        due.is("rests(1)", new MulesRemember().rests(1), 0);
    }

    private static void restsAtTheLastStone() {
        due.of("26 those on the last STONE set aside");
        due.is("five of them", string(0, 0, 5).rests(0), 2);
        due.is("five of them, the first", string(0, 0, 5).rests(1), 0);
        due.is("four, and one that would go", string(1, 0, 4).rests(1), 11);
        due.is("two, and three that balk", string(0, 3, 2).rests(0), 2);
        due.is("one, and four that balk", string(0, 4, 1).rests(0), 1);
        due.of("26 a MULE on the STONE ahead of the last one counts");
        due.is("it would go", Due.withTreaty("MM801").rests(1), 11);
        due.is("it would not", Due.withTreaty("MA919M801").rests(1), 0);
        due.of("26 that would BALK: a FOAL would not");
        due.is("a foal", Due.withTreaty("MA519M402").rests(1), 11);
    }

    // ---- promise 27

    private static void forgetsRefused() {
        MulesRemember x = Due.withTreaty("MM402");
        for (boolean upper : new boolean[] {false, true}) {
            due.of("27 BAD: way");
            for (int way : new int[] {-1, 2, LEAST, MOST}) {
                due.is("forgets(" + way + ", 0, 0)", x.forgets(way, 0, 0, upper), BAD);
            }
            due.of("27 BAD: m");
            for (int m : new int[] {-1, 6, LEAST, MOST}) {
                due.is("forgets(0, " + m + ", 0)", x.forgets(0, m, 0, upper), BAD);
            }
            due.of("27 BAD: x");
            for (int tenths : new int[] {-1, 11, LEAST, MOST}) {
                due.is("forgets(0, 0, " + tenths + ")", x.forgets(0, 0, tenths, upper), BAD);
            }
        }
    }

    private static void forgetsIs(MulesRemember x, int way, int m, int tenths, long upper, long lower) {
        String call = "forgets(" + way + ", " + m + ", " + tenths + ", ";
        due.is(call + "true)", x.forgets(way, m, tenths, true), upper);
        due.is(call + "false)", x.forgets(way, m, tenths, false), lower);
    }

    private static void forgetsNone() {
        due.of("27 m 0: none or more, surely");
        for (String text : new String[] {"M", "MM402", "MA519M401", "MM901", "MM001"}) {
            MulesRemember x = Due.withTreaty(text);
            for (int tenths = 0; tenths <= 10; tenths += 5) {
                forgetsIs(x, 0, 0, tenths, 1, 1);
                forgetsIs(x, 1, 0, tenths, 1, 1);
            }
        }
        due.of("27 m 5: more than there are, never, a FRACTION of 0");
        forgetsIs(new MulesRemember(), 1, 5, 10, 0, 1);
        forgetsIs(Due.withTreaty("MA519M401M401M401M401"), 1, 5, 0, 0, 1);
        due.of("27 m 5: all five, whoever forgets");
        forgetsIs(Due.withTreaty("MA519M401M401M401M401M401"), 1, 5, 10, 1, 1);
        forgetsIs(Due.withTreaty("MA519M601M601M601M601M601"), 0, 5, 10, 1, 1);
        due.of("27 none would BALK where the ridge ends");
        forgetsIs(Due.withTreaty("MA519M901"), 1, 1, 5, 0, 1);
        forgetsIs(Due.withTreaty("MA519M001"), 0, 1, 5, 0, 1);
        due.of("27 a MULE that was SHOWN none forgets none");
        forgetsIs(Due.withTreaty("MA519M400"), 1, 1, 10, 1, 1);
    }

    /** An old one that balks, and foals that balk by what they were shown. */
    private static MulesRemember foals(int many) {
        MulesRemember x = Due.withTreaty("MA519M401" + "M402".repeat(many));
        for (int mule = 1; mule <= many; mule++) {
            x.show(mule, 0, 0);
        }
        return x;
    }

    private static long gcd(long a, long b) {
        return b == 0 ? a : gcd(b, a % b);
    }

    private static void forgetsByEachTenth() {
        MulesRemember x = foals(1);
        for (int tenths = 0; tenths <= 10; tenths++) {
            due.of("27 forgets all of that by x tenths: " + tenths);
            long shared = gcd(10 - tenths, 10);
            forgetsIs(x, 1, 2, tenths, (10 - tenths) / shared, 10 / shared);
            forgetsIs(x, 1, 1, tenths, 1, 1);
            forgetsIs(x, 1, 3, tenths, 0, 1);
        }
        due.of("27 x 0: none forgets");
        forgetsIs(foals(4), 1, 5, 0, 1, 1);
        due.of("27 x 10: each forgets");
        forgetsIs(foals(4), 1, 2, 10, 0, 1);
        forgetsIs(foals(4), 1, 1, 10, 1, 1);
    }

    private static long power(long base, int times) {
        long product = 1;
        for (int i = 0; i < times; i++) {
            product *= base;
        }
        return product;
    }

    private static void forgetsCounts() {
        long[] ways = {1, 4, 6, 4, 1};
        MulesRemember x = foals(4);
        for (int m = 1; m <= 5; m++) {
            due.of("27 m MULES or more, each by itself, in least terms: m " + m);
            for (int tenths = 0; tenths <= 10; tenths++) {
                long upper = 0;
                for (int balk = m - 1; balk <= 4; balk++) {
                    upper += ways[balk] * power(10 - tenths, balk) * power(tenths, 4 - balk);
                }
                long shared = gcd(upper, 10000);
                forgetsIs(x, 1, m, tenths, upper / shared, 10000 / shared);
            }
        }
    }

    private static void forgetsWho() {
        due.of("27 forgets all of that, not one of that");
        MulesRemember x = Due.withTreaty("MA519A519M401M402");
        x.show(1, 0, 0);
        x.show(1, 0, 1);
        forgetsIs(x, 1, 2, 5, 1, 2);
        due.of("27 a PLAIN one that forgets KNOWS those of even number");
        MulesRemember plain = Due.withTreaty("MA519A419M401M400");
        plain.show(1, 0, 0);
        plain.show(1, 0, 1);
        forgetsIs(plain, 1, 2, 10, 1, 1);
        due.of("27 a CIRCUS one that forgets KNOWS the last");
        MulesRemember circus = Due.withTreaty("MA419A519M401M403");
        circus.show(1, 0, 0);
        forgetsIs(circus, 1, 2, 10, 1, 1);
        due.of("27 a MULE that was SHOWN what does not forbid");
        MulesRemember other = Due.withTreaty("MA519A419M401M402");
        other.show(1, 0, 1);
        forgetsIs(other, 1, 1, 5, 1, 1);
        forgetsIs(other, 1, 2, 5, 0, 1);
        due.of("27 all five were SHOWN");
        MulesRemember five = Due.withTreaty("MA519A519M401M401M401M401M401");
        for (int mule = 0; mule <= 4; mule++) {
            five.show(mule, (mule + 1) % 5, 1);
        }
        for (int mule = 0; mule <= 4; mule++) {
            five.sell(mule);
        }
        forgetsIs(five, 1, 5, 9, 1, 1);
        due.of("27 nothing is forgotten");
        due.is("mule(0, 3)", five.mule(0, 3), 0b10);
        due.is("about(4)", five.about(4), 10);
    }

    // ---- promise 28

    private static void seedAtBounds() {
        due.of("28 THE SEED is v: what it was, at the ends of a long");
        MulesRemember x = new MulesRemember();
        long[] seeds = {Long.MAX_VALUE, Long.MIN_VALUE, -1, 1, 0, 1L << 32, MOST, LEAST};
        long was = 0;
        for (long seed : seeds) {
            due.is("seed(" + seed + ")", x.seed(seed), was);
            was = seed;
        }
        due.is("seed(0)", x.seed(0), was);
    }

    private static void seedAfterAYear(long seed, long want) {
        MulesRemember x = new MulesRemember();
        x.seed(seed);
        x.years(1);
        due.is("after a year of " + seed, x.seed(0), want);
    }

    private static void seedWraps() {
        due.of("28 x times 6364136223846793005 and 1442695040888963407, of 0");
        seedAfterAYear(0, 1442695040888963407L);
        due.of("28 x times 6364136223846793005 and 1442695040888963407, of 1");
        seedAfterAYear(1, 7806831264735756412L);
        due.of("28 64 bits, wrapping, beyond the most");
        seedAfterAYear(2, -4275776585127002199L);
        seedAfterAYear(Long.MAX_VALUE, 4301930853896946210L);
        due.of("28 64 bits, wrapping, below 0");
        seedAfterAYear(-1, -4921441182957829598L);
        seedAfterAYear(Long.MIN_VALUE, -7780676995965812401L);
        due.of("28 64 bits, wrapping, through many years");
        MulesRemember x = new MulesRemember();
        x.seed(9);
        x.years(30);
        x.years(1);
        due.is("seed(0)", x.seed(0), 3965132133515300738L);
    }

    // ---- promise 29

    private static void yearsRefused() {
        due.of("29 BAD: m");
        MulesRemember x = Due.withTreaty("MA519M402");
        x.seed(77);
        for (int m : new int[] {0, -1, 31, LEAST, MOST}) {
            due.is("years(" + m + ")", x.years(m), BAD);
        }
        due.of("29 what is refused does not move THE SEED");
        due.is("seed(0)", x.seed(0), 77);
    }

    private static void yearsMoveTheSeed() {
        for (int m = 1; m <= 30; m++) {
            due.of("29 m times (1 .. 30): " + m);
            MulesRemember x = new MulesRemember();
            long seed = 5;
            x.seed(seed);
            for (int i = 0; i < m; i++) {
                seed = seed * TIMES + MORE;
            }
            due.is("years(" + m + ")", x.years(m), 0);
            due.is("seed(0)", x.seed(0), seed);
        }
    }

    /** The least seed from a first one on whose years have these lots, 0 .. 11. */
    private static long seedOf(long from, int... lots) {
        for (long seed = from; ; seed++) {
            long x = seed;
            int fit = 0;
            while (fit < lots.length) {
                x = x * TIMES + MORE;
                if ((x >>> 33) % 12 != lots[fit]) {
                    break;
                }
                fit++;
            }
            if (fit == lots.length) {
                return seed;
            }
        }
    }

    private static void yearsAre(String text, long seed, int m, int want) {
        MulesRemember x = Due.withTreaty(text);
        x.seed(seed);
        due.is(text + " years(" + m + ") of " + seed, x.years(m), want);
    }

    private static void yearsOfEachLot() {
        String foals = "M402".repeat(5);
        for (int lot = 0; lot < 12; lot++) {
            for (long from : new long[] {0, -1000000, Long.MAX_VALUE - 1000000}) {
                long seed = seedOf(from, lot);
                due.of("29 that left by 2 a way: lot " + lot);
                yearsAre("MA520" + foals, seed, 1, lot < 10 && lot % 2 == 1 ? 1 : 0);
                yearsAre("MA321" + foals, seed, 1, lot < 10 && lot % 2 == 0 ? 1 : 0);
                for (int mule = 0; mule < 5; mule++) {
                    due.of("29 that by 2 (down) is a MULE: lot " + lot + ", mule " + mule);
                    String text = "MA520A321" + "M002".repeat(mule) + "M402" + "M002".repeat(4 - mule);
                    yearsAre(text, seed, 1, lot / 2 == mule ? 1 : 0);
                }
                due.of("29 if there is such a one: lot " + lot);
                yearsAre("MA520A321M402M402", seed, 1, lot < 4 ? 1 : 0);
                due.of("29 and by 10, 11, WAITED: lot " + lot);
                yearsAre("MA520A321" + foals, seed, 1, lot < 10 ? 1 : 0);
            }
        }
    }

    /** Two years, of which the second one breaks an article at hour 0, and not at hour 1. */
    private static void waitsFirst(String because, String text, int lot, int then) {
        due.of("29 else WAITED, THE HOUR is one more: " + because);
        yearsAre(text, seedOf(0, lot, then), 2, 0);
        yearsAre(text, seedOf(0, then, lot), 1, 1);
    }

    private static void yearsThatWait() {
        waitsFirst("lot 10", "MA511M402", 10, 1);
        waitsFirst("lot 11", "MA511M402", 11, 1);
        waitsFirst("there is no such one", "MA511M402", 3, 1);
        waitsFirst("there is no fifth one", "MA511M402M402M402M402", 9, 1);
        waitsFirst("there is no STONE south", "MA511M402M002", 2, 1);
        waitsFirst("there is no STONE north", "MA511M402M902", 3, 1);
        waitsFirst("it BALKS", "MA511M402M401", 3, 1);
        due.of("29 a STEP, and THE HOUR is one more");
        yearsAre("MA511M402M202", seedOf(0, 3, 1), 2, 0);
        yearsAre("MA512M402M202", seedOf(0, 3, 1), 2, 1);
        due.of("29 THE HOUR by 10 begins anew");
        MulesRemember x = Due.withTreaty("MA511M402");
        Due.pauses(x, 9);
        x.seed(seedOf(0, 1));
        due.is("years(1) at hour 9", x.years(1), 0);
        x.seed(seedOf(0, 10, 1));
        due.is("years(2) at hour 9", x.years(2), 1);
    }

    private static void yearsGoOn() {
        due.of("29 as many more are BROKEN as ARTICLES FORBID it");
        yearsAre("MA519A520A500A531A519M402", seedOf(0, 1), 1, 5);
        due.of("29 each year as the ones ahead of it left the MULES");
        yearsAre("MA519A619M402", seedOf(0, 1, 1), 2, 2);
        yearsAre("MA619M402", seedOf(0, 1, 1), 2, 1);
        yearsAre("MA419M402", seedOf(0, 1, 0), 2, 1);
        due.of("29 STEPS within the ridge, to its ends");
        yearsAre("MA919M802", seedOf(0, 1, 1), 2, 1);
        yearsAre("MA019M102", seedOf(0, 0, 0), 2, 1);
        due.of("29 none BREAKS: those that KNOW all");
        for (long seed = 0; seed < 20; seed++) {
            yearsAre("MA519A520A410A321M401M501M301M601M201", seed, 30, 0);
        }
        due.of("29 with no mules at all");
        yearsAre("M", 3, 30, 0);
    }

    private static void yearsChangeNothing() {
        due.of("29 Nothing changes but THE SEED");
        MulesRemember x = Due.withTreaty("MA519A419M402M401");
        x.show(0, 1, 0);
        x.forget(0);
        x.step(0, 1);
        x.seed(seedOf(0, 0, 1, 0));
        due.of("29 how many are BROKEN more, without those ahead of it");
        due.is("years(3)", x.years(3), 3);
        due.of("29 Nothing changes but THE SEED");
        due.is("about(2)", x.about(2), 1);
        due.is("about(3)", x.about(3), 1);
        due.is("about(4)", x.about(4), 3);
        due.is("mule(0, 0)", x.mule(0, 0), 5);
        due.is("mule(0, 3)", x.mule(0, 3), 0);
        due.is("balks(0, 0)", x.balks(0, 0), NONE);
        due.is("undo()", x.undo(), 2);
        due.is("mule(0, 0)", x.mule(0, 0), 4);
    }
}
