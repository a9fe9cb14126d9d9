import java.util.ArrayList;
import java.util.List;

/**
 * "What is refused changes nothing", of every refusal of every call, and "in what follows nothing is changed" of
 * every question: two objects like each other, one of which has one call more, answer alike to the end.
 */
public final class RefusedTest {
    private static final int UNKNOWN = -1, BAD = -2, LATE = -3, FULL = -4;
    private static final int LEAST = Integer.MIN_VALUE, MOST = Integer.MAX_VALUE;
    private static final int MOST_CALLS = 512;
    private static final Due due = new Due();

    private interface Call {
        long on(MulesRemember x);
    }

    /** What one of the twins has ahead of the call, and what the two are asked behind it. */
    private enum Stage { NEW, READY, BUSY }

    private static Stage stage = Stage.NEW;

    public static void main(String[] args) {
        stage = Stage.NEW;
        refusalsOfANewObject();
        stage = Stage.READY;
        refusalsOfATreaty();
        stage = Stage.BUSY;
        refusalsInTheMidst();
        refusalsOfNumbers();
        questions();
        stage = Stage.READY;
        questions();
        due.end();
    }

    // ---- the twins

    private static MulesRemember twin() {
        switch (stage) {
            case NEW: return new MulesRemember();
            case READY: return Due.withTreaty("MA519A321M402M401M403M002M902");
            default: return busy();
        }
    }

    /** A full text with a fault, a full row of acts, six sightings, one slot kept, a seed. */
    private static MulesRemember busy() {
        MulesRemember x = Due.withTreaty("MA519A321M402M401M403M002M902");
        Due.write(x, "M000A000M000A000123");
        for (int i = 0; i < 6; i++) {
            x.see(i % 2, i % 4, i, i % 2, i / 4);
        }
        x.seed(-77);
        x.show(0, 1, 0);
        x.forget(0);
        x.show(0, 1, 1);
        x.show(2, 1, 0);
        x.step(3, 1);
        x.step(3, 0);
        x.step(0, 1);
        x.keep(1);
        x.sell(3);
        x.step(0, 0);
        Due.pauses(x, 7);
        return x;
    }

    private static void askState(MulesRemember x, List<Long> told) {
        for (int what = 2; what <= 4; what++) {
            told.add((long) x.about(what));
        }
        for (int mule = 0; mule <= 3; mule++) {
            told.add((long) x.mule(mule, 0));
            told.add((long) x.mule(mule, 2));
            told.add((long) x.mule(mule, 3));
        }
    }

    private static void askAll(MulesRemember x, List<Long> told) {
        for (int what = 0; what <= 6; what++) {
            told.add((long) x.about(what));
        }
        told.add((long) x.fault());
        for (int number = 0; number <= 4; number++) {
            for (int what = 0; what <= 4; what++) {
                told.add((long) x.article(number, what));
                told.add((long) x.mule(number, what));
            }
            told.add((long) x.by(number, 0));
            told.add((long) x.by(number, 1));
        }
        for (int stone = 0; stone <= 1; stone++) {
            told.add((long) x.may(stone, 0));
            told.add((long) x.may(stone, 1));
        }
    }

    /** All that there is, the acts one by one, what was kept, the seed, the text, what is seen. */
    private static List<Long> story(MulesRemember x) {
        List<Long> told = new ArrayList<>();
        askAll(x, told);
        told.add((long) x.years(5));
        told.add(x.seed(3));
        for (int act = 0; act <= 14; act++) {
            told.add((long) x.undo());
            askState(x, told);
        }
        for (int slot = 0; slot <= 1; slot++) {
            told.add((long) x.again(slot));
            askState(x, told);
        }
        told.add((long) x.treaty());
        told.add((long) x.unsee());
        told.add((long) x.wipe());
        due.is("calls of one object", told.size() + 100 <= MOST_CALLS ? 1 : 0, 1);
        return told;
    }

    private static void sameAfter(String name, Call call) {
        List<Long> told = story(twin());
        MulesRemember other = twin();
        call.on(other);
        List<Long> toldByOther = story(other);
        for (int i = 0; i < told.size(); i++) {
            due.is(name + " changes nothing, answer " + i, toldByOther.get(i), told.get(i));
        }
    }

    private static void refused(String name, int want, Call call) {
        due.of(stage + ", what is refused");
        due.is(name, call.on(twin()), want);
        sameAfter(name, call);
        due.is(name + " twice", twice(call), want);
    }

    private static long twice(Call call) {
        MulesRemember x = twin();
        call.on(x);
        return call.on(x);
    }

    // ---- the refusals

    private static void refusalsOfANewObject() {
        refused("treaty()", LATE, x -> x.treaty());
        refused("article(0, 0)", UNKNOWN, x -> x.article(0, 0));
        refused("mule(0, 0)", UNKNOWN, x -> x.mule(0, 0));
        refused("by(0, 0)", UNKNOWN, x -> x.by(0, 0));
        refused("balks(0, 0)", UNKNOWN, x -> x.balks(0, 0));
        refused("step(0, 1)", UNKNOWN, x -> x.step(0, 1));
        refused("show(0, 1, 0)", UNKNOWN, x -> x.show(0, 1, 0));
        refused("show(0, 0, 0)", UNKNOWN, x -> x.show(0, 0, 0));
        refused("sell(0)", UNKNOWN, x -> x.sell(0));
        refused("forget(0)", UNKNOWN, x -> x.forget(0));
        refused("undo()", LATE, x -> x.undo());
        refused("way(0, 0, true)", UNKNOWN, x -> x.way(0, 0, true));
        refused("enclaves(0)", UNKNOWN, x -> x.enclaves(0));
        refused("teach(0)", UNKNOWN, x -> x.teach(0));
        refused("differ(0, 0)", UNKNOWN, x -> x.differ(0, 0));
        refused("share(0, true)", UNKNOWN, x -> x.share(0, true));
        refused("again(0)", LATE, x -> x.again(0));
        refused("again(1)", LATE, x -> x.again(1));
    }

    private static void refusalsOfATreaty() {
        refused("step(1, 1), it balks", LATE, x -> x.step(1, 1));
        refused("step(3, 0), no stone", LATE, x -> x.step(3, 0));
        refused("step(4, 1), no stone", LATE, x -> x.step(4, 1));
        refused("by(3, 0)", LATE, x -> x.by(3, 0));
        refused("by(4, 1)", LATE, x -> x.by(4, 1));
        refused("balks(3, 0)", LATE, x -> x.balks(3, 0));
        refused("balks(4, 1)", LATE, x -> x.balks(4, 1));
        refused("show(1, 1, 0), both are one", BAD, x -> x.show(1, 1, 0));
        refused("show(3, 1, 0), not at one stone", LATE, x -> x.show(3, 1, 0));
        refused("show(0, 2, 0), it does not know it", LATE, x -> x.show(0, 2, 0));
        refused("show(2, 0, 1), it does not know it", LATE, x -> x.show(2, 0, 1));
        refused("sell(2), it is circus", LATE, x -> x.sell(2));
        refused("forget(0), none", LATE, x -> x.forget(0));
        refused("forget(1), none", LATE, x -> x.forget(1));
        refused("undo(), none", LATE, x -> x.undo());
        refused("again(0), none", LATE, x -> x.again(0));
        refused("again(1), none", LATE, x -> x.again(1));
    }

    private static void refusalsInTheMidst() {
        refused("write(77), full", FULL, x -> x.write(77));
        refused("write(-1), full", BAD, x -> x.write(-1));
        refused("write(256), full", BAD, x -> x.write(256));
        refused("treaty(), a fault", LATE, x -> x.treaty());
        refused("step(1, 0), it balks", LATE, x -> x.step(1, 0));
        refused("step(3, 0), no stone", LATE, x -> x.step(3, 0));
        refused("step(4, 1), no stone", LATE, x -> x.step(4, 1));
        refused("show(0, 0, 0), both are one", BAD, x -> x.show(0, 0, 0));
        refused("show(0, 0, 1), both are one", BAD, x -> x.show(0, 0, 1));
        refused("show(0, 1, 1), shown already", LATE, x -> x.show(0, 1, 1));
        refused("show(0, 2, 0), it does not know it", LATE, x -> x.show(0, 2, 0));
        refused("show(3, 1, 0), not at one stone", LATE, x -> x.show(3, 1, 0));
        refused("sell(2), it is circus", LATE, x -> x.sell(2));
        refused("sell(3), it was sold", LATE, x -> x.sell(3));
        refused("forget(1), none", LATE, x -> x.forget(1));
        refused("see(1, 1, 1, 1, 1), full", FULL, x -> x.see(1, 1, 1, 1, 1));
        refused("see(10, 1, 1, 1, 1), full", UNKNOWN, x -> x.see(10, 1, 1, 1, 1));
        refused("see(1, 4, 1, 1, 1), full", BAD, x -> x.see(1, 4, 1, 1, 1));
        refused("again(0), none", LATE, x -> x.again(0));
    }

    private static void refusalsOfNumbers() {
        for (int n : new int[] {-1, 5, LEAST, MOST}) {
            refusalsOfMules(n);
        }
        for (int n : new int[] {-1, 2, LEAST, MOST}) {
            refusalsOfTwos(n);
        }
        for (int n : new int[] {-1, 10, LEAST, MOST}) {
            refused("way, stone " + n, UNKNOWN, x -> x.way(0, n, false));
            refused("see, stone " + n, UNKNOWN, x -> x.see(n, 0, 0, 0, 0));
            refused("see, hour " + n, BAD, x -> x.see(0, 0, n, 0, 0));
            refused("may, stone " + n, UNKNOWN, x -> x.may(n, 0));
        }
        for (int n : new int[] {-1, 11, LEAST, MOST}) {
            refused("about, what " + n, BAD, x -> x.about(n));
            refused("article, what " + n, BAD, x -> x.article(0, n));
            refused("mule, what " + n, BAD, x -> x.mule(0, n));
            refused("forgets, m " + n, BAD, x -> x.forgets(0, n, 0, true));
            refused("forgets, x " + n, BAD, x -> x.forgets(0, 0, n, true));
            refused("see, coat " + n, BAD, x -> x.see(0, n, 0, 0, 0));
        }
        for (int n : new int[] {-1, 256, LEAST, MOST}) {
            refused("write " + n, BAD, x -> x.write(n));
            refused("judge, n " + n, BAD, x -> x.judge(n, 0));
        }
        for (int n : new int[] {0, -1, 31, LEAST, MOST}) {
            refused("years, m " + n, BAD, x -> x.years(n));
        }
        refused("judge(0, 0)", BAD, x -> x.judge(0, 0));
        refused("judge(5, 0)", BAD, x -> x.judge(5, 0));
        for (int row : new int[] {-1, 1000000, LEAST, MOST}) {
            refused("judge, row " + row, BAD, x -> x.judge(3, row));
        }
    }

    private static void refusalsOfMules(int n) {
        refused("mule, mule " + n, UNKNOWN, x -> x.mule(n, 0));
        refused("by, mule " + n, UNKNOWN, x -> x.by(n, 0));
        refused("balks, mule " + n, UNKNOWN, x -> x.balks(n, 0));
        refused("step, mule " + n, UNKNOWN, x -> x.step(n, 0));
        refused("show, mule " + n, UNKNOWN, x -> x.show(n, 1, 0));
        refused("show, other " + n, UNKNOWN, x -> x.show(0, n, 0));
        refused("sell, mule " + n, UNKNOWN, x -> x.sell(n));
        refused("forget, mule " + n, UNKNOWN, x -> x.forget(n));
        refused("way, mule " + n, UNKNOWN, x -> x.way(n, 0, true));
        refused("enclaves, mule " + n, UNKNOWN, x -> x.enclaves(n));
        refused("teach, mule " + n, UNKNOWN, x -> x.teach(n));
        refused("differ, mule " + n, UNKNOWN, x -> x.differ(n, 0));
        refused("differ, other " + n, UNKNOWN, x -> x.differ(0, n));
    }

    /** There are two articles, two ways, two slots, two answers to a yes or no. */
    private static void refusalsOfTwos(int n) {
        refused("article, article " + n, UNKNOWN, x -> x.article(n, 0));
        refused("show, article " + n, UNKNOWN, x -> x.show(2, 1, n));
        refused("share, article " + n, UNKNOWN, x -> x.share(n, true));
        refused("by, way " + n, BAD, x -> x.by(0, n));
        refused("balks, way " + n, BAD, x -> x.balks(0, n));
        refused("step, way " + n, BAD, x -> x.step(0, n));
        refused("forgets, way " + n, BAD, x -> x.forgets(n, 0, 0, false));
        refused("see, south " + n, BAD, x -> x.see(0, 0, 0, n, 0));
        refused("see, balked " + n, BAD, x -> x.see(0, 0, 0, 0, n));
        refused("may, what " + n, BAD, x -> x.may(0, n));
        refused("rests, what " + n, BAD, x -> x.rests(n));
        refused("keep, slot " + n, UNKNOWN, x -> x.keep(n));
        refused("again, slot " + n, UNKNOWN, x -> x.again(n));
    }

    // ---- the questions

    private static void questions() {
        due.of(stage + ", in what follows nothing is changed");
        sameAfter("fault()", x -> x.fault());
        for (int number = 0; number <= 4; number++) {
            int n = number;
            sameAfter("about", x -> x.about(n));
            sameAfter("article", x -> x.article(0, n));
            sameAfter("mule", x -> x.mule(n, n));
            sameAfter("by", x -> x.by(n, 1));
            sameAfter("balks", x -> x.balks(n, 1));
            sameAfter("way", x -> x.way(n, 9, false));
            sameAfter("honest", x -> x.way(n, 0, true));
            sameAfter("enclaves", x -> x.enclaves(n));
            sameAfter("teach", x -> x.teach(n));
            sameAfter("differ", x -> x.differ(0, n));
            sameAfter("share", x -> x.share(n, true));
            sameAfter("may", x -> x.may(n, 0));
            sameAfter("the first that may be", x -> x.may(n, 1));
            sameAfter("forgets", x -> x.forgets(1, n, 5, true));
            sameAfter("judge, steps and waits", x -> x.judge(4, 31003000 + n));
            sameAfter("judge, sold and forgot", x -> x.judge(4, 60706100 + n));
        }
        sameAfter("rests(0)", x -> x.rests(0));
        sameAfter("rests(1)", x -> x.rests(1));
        due.of(stage + ", nothing changes but THE SEED");
        for (int m = 1; m <= 30; m++) {
            int years = m;
            long seed = 1000003L * m;
            sameAfter("years(" + m + ")", x -> {
                long was = x.seed(seed);
                x.years(years);
                return x.seed(was);
            });
        }
    }
}
