/** Promises 23 to 25 at their bounds: six sightings, refused ones, which article it may be. */
public final class LawEdgesTest {
    private static final int UNKNOWN = -1, BAD = -2, FULL = -4, NONE = -9;
    private static final int LEAST = Integer.MIN_VALUE, MOST = Integer.MAX_VALUE;
    private static final int[] NO_FLAGS = {-1, 2, LEAST, MOST};
    private static final Due due = new Due();

    public static void main(String[] args) {
        seeUnknown();
        seeBad();
        seeAtBounds();
        seeFull();
        seeTold();
        unsee();
        mayRefused();
        mayOfNone();
        mayOfEachSighting();
        mayOfSeveral();
        due.end();
    }

    // ---- promise 23

    private static void seeUnknown() {
        due.of("23 UNKNOWN: stone");
        MulesRemember x = new MulesRemember();
        for (int stone : new int[] {-1, 10, LEAST, MOST}) {
            due.is("see(" + stone + ", 0, 0, 0, 0)", x.see(stone, 0, 0, 0, 0), UNKNOWN);
        }
        due.is("about(5)", x.about(5), 0);
    }

    private static void seeBad() {
        MulesRemember x = new MulesRemember();
        due.of("23 BAD: coat");
        for (int coat : new int[] {-1, 4, LEAST, MOST}) {
            due.is("see(0, " + coat + ", 0, 0, 0)", x.see(0, coat, 0, 0, 0), BAD);
        }
        due.of("23 BAD: hour");
        for (int hour : new int[] {-1, 10, LEAST, MOST}) {
            due.is("see(0, 0, " + hour + ", 0, 0)", x.see(0, 0, hour, 0, 0), BAD);
        }
        due.of("23 BAD: south");
        for (int south : NO_FLAGS) {
            due.is("see(0, 0, 0, " + south + ", 0)", x.see(0, 0, 0, south, 0), BAD);
        }
        due.of("23 BAD: balked");
        for (int balked : NO_FLAGS) {
            due.is("see(0, 0, 0, 0, " + balked + ")", x.see(0, 0, 0, 0, balked), BAD);
        }
        due.of("23 what is refused changes nothing");
        due.is("about(5)", x.about(5), 0);
        due.is("may(0, 0)", x.may(0, 0), 30);
        due.is("unsee()", x.unsee(), 0);
    }

    private static void seeAtBounds() {
        due.of("23 a STONE, COAT, HOUR at their least");
        MulesRemember x = new MulesRemember();
        due.is("see(0, 0, 0, 0, 0)", x.see(0, 0, 0, 0, 0), 1);
        due.of("23 a STONE, COAT, HOUR at their greatest");
        due.is("see(9, 3, 9, 1, 1)", x.see(9, 3, 9, 1, 1), 2);
        due.of("23 a STONE with no articles, no mules, or a treaty");
        MulesRemember y = Due.withTreaty("MA519M401");
        due.is("see(5, 0, 0, 1, 0)", y.see(5, 0, 0, 1, 0), 1);
        due.is("about(4)", y.about(4), 0);
    }

    private static MulesRemember sixSeen() {
        MulesRemember x = new MulesRemember();
        for (int i = 0; i < 6; i++) {
            x.see(3, 1, 4, 1, 1);
        }
        return x;
    }

    private static void seeFull() {
        due.of("23 how many there are: 6 such at most");
        MulesRemember x = new MulesRemember();
        for (int many = 1; many <= 6; many++) {
            due.is("see(..)", x.see(many, 0, 0, 0, 0), many);
            due.is("about(5)", x.about(5), many);
        }
        due.of("23 FULL: 6");
        due.is("see(7, 0, 0, 0, 0)", x.see(7, 0, 0, 0, 0), FULL);
        due.is("about(5)", x.about(5), 6);
        due.of("23 FULL changes nothing");
        due.is("may(7, 0)", x.may(7, 0), 30);
        due.is("may(1, 0)", x.may(1, 0), 13);
        due.is("may(6, 0)", x.may(6, 0), 13);
        due.of("23 FULL: what is seen already, as well");
        due.is("see(6, 0, 0, 0, 0)", x.see(6, 0, 0, 0, 0), FULL);
        due.of("23 what is told first: UNKNOWN, BAD, FULL");
        due.is("see(10, 4, 10, 2, 2)", x.see(10, 4, 10, 2, 2), UNKNOWN);
        due.is("see(-1, 0, 0, 0, 0)", x.see(-1, 0, 0, 0, 0), UNKNOWN);
        due.is("see(0, 4, 0, 0, 0)", x.see(0, 4, 0, 0, 0), BAD);
        due.is("see(0, 0, 10, 0, 0)", x.see(0, 0, 10, 0, 0), BAD);
        due.is("see(0, 0, 0, 2, 0)", x.see(0, 0, 0, 2, 0), BAD);
        due.is("see(0, 0, 0, 0, 2)", x.see(0, 0, 0, 0, 2), BAD);
        due.is("new: see(10, 4, 10, 2, 2)", new MulesRemember().see(10, 4, 10, 2, 2), UNKNOWN);
        due.of("23 not FULL: unseen");
        x.unsee();
        due.is("see(7, 0, 0, 0, 0)", x.see(7, 0, 0, 0, 0), 1);
    }

    private static void seeTold() {
        due.of("23 SEEN is no act, and stays when acts are undone");
        MulesRemember x = new MulesRemember();
        x.pause();
        x.see(3, 1, 4, 1, 1);
        due.is("about(4)", x.about(4), 1);
        x.undo();
        due.is("about(5)", x.about(5), 1);
    }

    // ---- promise 24

    private static void unsee() {
        due.of("24 how much there was: 0");
        MulesRemember x = new MulesRemember();
        due.is("unsee()", x.unsee(), 0);
        due.of("24 how much there was: 6");
        MulesRemember y = sixSeen();
        due.is("unsee()", y.unsee(), 6);
        due.of("24 Nothing is SEEN");
        due.is("unsee()", y.unsee(), 0);
        due.is("about(5)", y.about(5), 0);
        due.is("may(3, 0)", y.may(3, 0), 30);
        due.is("may(3, 1)", y.may(3, 1), 0);
        due.of("24 six more can be SEEN");
        for (int many = 1; many <= 6; many++) {
            due.is("see(..)", y.see(3, 1, 4, 1, 0), many);
        }
        due.is("see(..)", y.see(3, 1, 4, 1, 0), FULL);
        due.is("unsee()", y.unsee(), 6);
    }

    // ---- promise 25

    private static void mayRefused() {
        MulesRemember x = new MulesRemember();
        due.of("25 UNKNOWN");
        for (int stone : new int[] {-1, 10, LEAST, MOST}) {
            due.is("may(" + stone + ", 0)", x.may(stone, 0), UNKNOWN);
            due.is("may(" + stone + ", 1)", x.may(stone, 1), UNKNOWN);
        }
        due.of("25 BAD");
        for (int what : NO_FLAGS) {
            due.is("may(0, " + what + ")", x.may(0, what), BAD);
            due.is("may(9, " + what + ")", x.may(9, what), BAD);
        }
        due.of("25 UNKNOWN is told ahead of BAD");
        due.is("may(10, 2)", x.may(10, 2), UNKNOWN);
        due.is("may(-1, -1)", x.may(-1, -1), UNKNOWN);
    }

    private static void mayIs(MulesRemember x, int stone, int count, int first) {
        due.is("may(" + stone + ", 0)", x.may(stone, 0), count);
        due.is("may(" + stone + ", 1)", x.may(stone, 1), first);
    }

    private static void mayOfNone() {
        due.of("25 MAY of a STONE of which nothing is SEEN: 30 there are");
        MulesRemember x = new MulesRemember();
        x.see(4, 0, 0, 1, 1);
        x.see(4, 0, 0, 1, 0);
        for (int stone = 0; stone <= 9; stone++) {
            if (stone != 4) {
                mayIs(x, stone, 30, 0);
            }
        }
        due.of("25 NONE: by no ARTICLE is it so");
        mayIs(x, 4, 0, NONE);
    }

    /** Whether an article of a sort and of v lets an old one go. */
    private static boolean letsGo(int sort, int v, int coat, int hour, int south) {
        switch (sort) {
            case 0: return v % 4 != coat;
            case 1: return hour >= v;
            default: return v % 2 == 1 ? south == 1 : south == 0;
        }
    }

    private static void mayOfOne(int coat, int hour, int south, int balked) {
        int count = 0;
        int first = NONE;
        for (int article = 29; article >= 0; article--) {
            if (letsGo(article / 10, article % 10, coat, hour, south) != (balked == 1)) {
                count++;
                first = article;
            }
        }
        for (int stone = 0; stone <= 9; stone += 3) {
            MulesRemember x = new MulesRemember();
            x.see(stone, coat, hour, south, balked);
            due.of("25 MAY by one that is SEEN: coat " + coat + ", hour " + hour + ", south " + south + ", " + balked);
            mayIs(x, stone, count, first);
        }
    }

    private static void mayOfEachSighting() {
        for (int coat = 0; coat <= 3; coat++) {
            for (int hour = 0; hour <= 9; hour++) {
                for (int flags = 0; flags <= 3; flags++) {
                    mayOfOne(coat, hour, flags / 2, flags % 2);
                }
            }
        }
    }

    private static void mayOfSeveral() {
        due.of("25 MAY by the hour: one of v 9 is left");
        MulesRemember last = new MulesRemember();
        last.see(9, 0, 8, 1, 1);
        last.see(9, 0, 9, 1, 0);
        mayIs(last, 9, 1, 19);
        due.of("25 MAY by the hour: one of v 0 lets all go");
        MulesRemember first = new MulesRemember();
        for (int coat = 0; coat <= 3; coat++) {
            first.see(0, coat, 0, coat % 2, 0);
        }
        mayIs(first, 0, 1, 10);
        due.of("25 MAY by the way: the first one is of SORT 2");
        MulesRemember way = new MulesRemember();
        way.see(5, 1, 9, 1, 1);
        way.see(5, 1, 9, 0, 0);
        mayIs(way, 5, 5, 20);
        way.see(5, 2, 9, 0, 0);
        way.see(5, 2, 0, 1, 1);
        mayIs(way, 5, 5, 20);
        due.of("25 MAY by the sixth that is SEEN");
        way.see(5, 2, 0, 1, 1);
        way.see(5, 2, 0, 1, 0);
        mayIs(way, 5, 0, NONE);
        due.of("25 MAY by the coat: v left by 4");
        MulesRemember coat = new MulesRemember();
        coat.see(5, 1, 9, 1, 1);
        coat.see(5, 2, 0, 1, 0);
        mayIs(coat, 5, 3, 1);
        due.of("25 MAY does not look at THE TREATY");
        mayIs(Due.withTreaty("MA519M401"), 5, 30, 0);
    }
}
