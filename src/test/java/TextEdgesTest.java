/** Promises 1 to 5 at their bounds: each sentence of the document that names one has a test of its own. */
public final class TextEdgesTest {
    private static final int UNKNOWN = -1, BAD = -2, LATE = -3, FULL = -4, NONE = -9;
    private static final String MULES = "M000".repeat(5), ARTICLES = "A000".repeat(5);
    private static final Due due = new Due();

    public static void main(String[] args) {
        aNewObject();
        write();
        wipe();
        faultOfShortTexts();
        faultOfEachByte();
        faultOfManyParts();
        faultStays();
        treaty();
        treatyAnew();
        lateTreaty();
        due.end();
    }

    // ---- promise 1

    private static void aNewObject() {
        noMules();
        noArticles();
        noText();
        noHourNothingBroken();
        noActs();
        noneSeen();
        noSeed();
        noneKept();
        twoObjects();
        fiveHundredAndTwelveCalls();
    }

    private static void noMules() {
        due.of("1 No mules");
        MulesRemember x = new MulesRemember();
        due.is("about(0)", x.about(0), 0);
        due.is("mule(0, 0)", x.mule(0, 0), UNKNOWN);
    }

    private static void noArticles() {
        due.of("1 No articles");
        MulesRemember x = new MulesRemember();
        due.is("about(1)", x.about(1), 0);
        due.is("article(0, 0)", x.article(0, 0), UNKNOWN);
    }

    private static void noText() {
        due.of("1 A new object has no bytes");
        MulesRemember x = new MulesRemember();
        due.is("about(6)", x.about(6), 0);
        due.is("wipe()", x.wipe(), 0);
    }

    private static void noHourNothingBroken() {
        due.of("1 A new object has hour 0 and nothing broken");
        MulesRemember x = new MulesRemember();
        due.is("about(2)", x.about(2), 0);
        due.is("about(3)", x.about(3), 0);
    }

    private static void noActs() {
        due.of("1 A new object has no acts");
        MulesRemember x = new MulesRemember();
        due.is("about(4)", x.about(4), 0);
        due.is("undo()", x.undo(), LATE);
    }

    private static void noneSeen() {
        due.of("23 SEEN: none at first");
        MulesRemember x = new MulesRemember();
        due.is("about(5)", x.about(5), 0);
        due.is("unsee()", x.unsee(), 0);
        for (int stone = 0; stone <= 9; stone++) {
            due.is("may(" + stone + ", 0)", x.may(stone, 0), 30);
        }
    }

    private static void noSeed() {
        due.of("28 THE SEED: 0 at first");
        due.is("seed(5)", new MulesRemember().seed(5), 0);
    }

    private static void noneKept() {
        due.of("31 LATE: none were kept, of a new object");
        MulesRemember x = new MulesRemember();
        due.is("again(0)", x.again(0), LATE);
        due.is("again(1)", x.again(1), LATE);
    }

    private static void twoObjects() {
        due.of("1 What is done to one object is not done to another");
        MulesRemember x = Due.withTreaty("MA111M222");
        MulesRemember y = new MulesRemember();
        x.pause();
        x.see(1, 1, 1, 1, 1);
        x.keep(0);
        x.seed(9);
        for (int what = 0; what <= 6; what++) {
            due.is("about(" + what + ")", y.about(what), 0);
        }
        due.is("again(0)", y.again(0), LATE);
        due.is("seed(0)", y.seed(0), 0);
    }

    private static void fiveHundredAndTwelveCalls() {
        due.of("An object is used for at most 512 calls");
        MulesRemember x = new MulesRemember();
        Due.pauses(x, 510);
        due.is("pause()", x.pause(), 511);
        due.is("about(2)", x.about(2), 511);
    }

    // ---- promise 2

    private static void write() {
        theLeastByte();
        theMostByte();
        belowAByte();
        aboveAByte();
        fortyEightBytes();
        fullStays();
        badAheadOfFull();
        writeAfterFullAndWiped();
    }

    private static void theLeastByte() {
        due.of("2 A byte (0 ..)");
        MulesRemember x = new MulesRemember();
        due.is("write(0)", x.write(0), 1);
        due.is("about(6)", x.about(6), 1);
    }

    private static void theMostByte() {
        due.of("2 A byte (.. 255)");
        MulesRemember x = new MulesRemember();
        due.is("write(255)", x.write(255), 1);
        due.is("about(6)", x.about(6), 1);
    }

    private static void belowAByte() {
        due.of("2 BAD: less than 0");
        MulesRemember x = new MulesRemember();
        for (int letter : new int[] {-1, -77, 'M' - 256, Integer.MIN_VALUE}) {
            due.is("write(" + letter + ")", x.write(letter), BAD);
        }
        due.is("about(6)", x.about(6), 0);
        due.is("fault()", x.fault(), 0);
    }

    private static void aboveAByte() {
        due.of("2 BAD: more than 255");
        MulesRemember x = new MulesRemember();
        for (int letter : new int[] {256, 'M' + 256, 65536 + 'M', Integer.MAX_VALUE}) {
            due.is("write(" + letter + ")", x.write(letter), BAD);
        }
        due.is("about(6)", x.about(6), 0);
        due.is("fault()", x.fault(), 0);
    }

    private static MulesRemember fullText() {
        return Due.withText("M" + ARTICLES + MULES + "7654321");
    }

    private static void fortyEightBytes() {
        due.of("2 how long it is, up to 48");
        MulesRemember x = new MulesRemember();
        for (int length = 1; length <= 48; length++) {
            due.is("write(77)", x.write(77), length);
        }
        due.is("about(6)", x.about(6), 48);
    }

    private static void fullStays() {
        due.of("2 FULL: there are 48");
        MulesRemember x = fullText();
        due.is("about(6)", x.about(6), 48);
        due.is("write(77)", x.write(77), FULL);
        due.is("write(0)", x.write(0), FULL);
        due.is("write(255)", x.write(255), FULL);
        due.is("about(6)", x.about(6), 48);
        due.is("fault()", x.fault(), 41);
        due.is("wipe()", x.wipe(), 48);
    }

    private static void badAheadOfFull() {
        due.of("2 BAD is told ahead of FULL");
        MulesRemember x = fullText();
        due.is("write(-1)", x.write(-1), BAD);
        due.is("write(256)", x.write(256), BAD);
        due.is("about(6)", x.about(6), 48);
    }

    private static void writeAfterFullAndWiped() {
        due.of("2 A full text that is wiped is not full");
        MulesRemember x = fullText();
        x.wipe();
        due.is("write(77)", x.write(77), 1);
        due.is("fault()", x.fault(), NONE);
    }

    // ---- promise 3

    private static void wipe() {
        wipeOfNone();
        wipeOfOne();
        wipeOfAll();
        wipeEmpties();
        wipeKeepsTheTreaty();
    }

    private static void wipeOfNone() {
        due.of("3 how long it was: 0");
        MulesRemember x = new MulesRemember();
        due.is("wipe()", x.wipe(), 0);
        due.is("wipe()", x.wipe(), 0);
    }

    private static void wipeOfOne() {
        due.of("3 how long it was: 1");
        MulesRemember x = Due.withText("M");
        due.is("wipe()", x.wipe(), 1);
        due.is("wipe()", x.wipe(), 0);
    }

    private static void wipeOfAll() {
        due.of("3 how long it was: 48");
        MulesRemember x = fullText();
        due.is("wipe()", x.wipe(), 48);
        due.is("wipe()", x.wipe(), 0);
    }

    private static void wipeEmpties() {
        due.of("3 THE TEXT is empty");
        MulesRemember x = Due.withText("MM000");
        x.wipe();
        due.is("about(6)", x.about(6), 0);
        due.is("fault()", x.fault(), 0);
        due.is("treaty()", x.treaty(), LATE);
    }

    private static void wipeKeepsTheTreaty() {
        due.of("3 THE TREATY is not the text");
        MulesRemember x = Due.withTreaty("MA111M222");
        x.pause();
        x.wipe();
        due.is("about(0)", x.about(0), 1);
        due.is("about(1)", x.about(1), 1);
        due.is("about(2)", x.about(2), 1);
        due.is("about(4)", x.about(4), 1);
    }

    // ---- promise 4

    private static void faultIs(String text, int want) {
        due.is("fault of '" + text + "'", Due.withText(text).fault(), want);
    }

    private static void faultOfShortTexts() {
        due.of("4 FAULT of the empty text: its length");
        faultIs("", 0);
        due.of("4 FAULT: PARTS, none");
        faultIs("M", NONE);
        due.of("4 FAULT: its length, if it is only not at its end");
        String text = "M" + ARTICLES + MULES;
        for (int length = 0; length <= 41; length++) {
            faultIs(text.substring(0, length), length % 4 == 1 ? NONE : length);
        }
    }

    private static boolean isBetween(int letter, char first, char last) {
        return letter >= first && letter <= last;
    }

    /** All bytes at the end of a text: those of a row fit there, and all others are the fault. */
    private static void bytesAt(String ahead, char first, char last, boolean atEnd) {
        for (int letter = 0; letter <= 255; letter++) {
            int place = ahead.length();
            int fits = atEnd ? NONE : place + 1;
            faultIs(ahead + (char) letter, isBetween(letter, first, last) ? fits : place);
        }
    }

    private static void faultOfEachByte() {
        due.of("4 FAULT of the first byte: M");
        bytesAt("", 'M', 'M', true);
        due.of("4 FAULT of a part's first byte: A or M");
        for (int letter = 0; letter <= 255; letter++) {
            faultIs("M" + (char) letter, letter == 'A' || letter == 'M' ? 2 : 1);
            faultIs("MA000" + (char) letter, letter == 'A' || letter == 'M' ? 6 : 5);
        }
        due.of("4 FAULT of an article's STONE: 0 .. 9");
        bytesAt("MA", '0', '9', false);
        due.of("4 FAULT of an article's SORT: 0 .. 3");
        bytesAt("MA0", '0', '3', false);
        due.of("4 FAULT of an article's value: 0 .. 9");
        bytesAt("MA00", '0', '9', true);
        due.of("4 FAULT of a mule's STONE: 0 .. 9");
        bytesAt("MM", '0', '9', false);
        due.of("4 FAULT of a mule's COAT: 0 .. 3");
        bytesAt("MM0", '0', '3', false);
        due.of("4 FAULT of a mule's KIND: 0 .. 3");
        bytesAt("MM00", '0', '3', true);
    }

    private static void faultOfManyParts() {
        due.of("4 FAULT: MULES 5 at most");
        faultIs("M" + MULES, NONE);
        faultIs("M" + MULES + "M", 21);
        faultIs("MA000" + MULES + "M000", 25);
        due.of("4 FAULT: five mules are no bound for articles");
        faultIs("M" + MULES + "A", 22);
        due.of("4 FAULT: ARTICLES 5 at most");
        faultIs("M" + ARTICLES, NONE);
        faultIs("M" + ARTICLES + "A", 21);
        faultIs("MM000" + ARTICLES + "A000", 25);
        due.of("4 FAULT: five articles are no bound for mules");
        faultIs("M" + ARTICLES + "M", 22);
        due.of("4 FAULT: no eleventh part");
        faultIs("M" + ARTICLES + MULES, NONE);
        faultIs("M" + MULES + ARTICLES, NONE);
        faultIs("M" + ARTICLES + MULES + "A", 41);
        faultIs("M" + ARTICLES + MULES + "M", 41);
        faultIs("M" + ARTICLES + MULES + "\0", 41);
        faultIs("M" + ARTICLES + MULES + "M000000", 41);
    }

    private static void faultStays() {
        due.of("4 FAULT: the first byte, whatever came behind it");
        faultIs("XM000", 0);
        faultIs("MX000", 1);
        faultIs("MM:00M", 2);
        faultIs("MM040", 3);
        faultIs("MM004A000", 4);
        faultIs("MA00XA0X0X", 4);
        faultIs("MM000m000A999", 5);
        faultIs("M" + ARTICLES + "A000M000", 21);
        faultIs("X".repeat(48), 0);
        faultIs("M".repeat(48), 2);
        due.of("4 FAULT changes nothing");
        MulesRemember x = Due.withText("MM");
        due.is("fault()", x.fault(), 2);
        due.is("fault()", x.fault(), 2);
        due.is("about(6)", x.about(6), 2);
        due.is("write(48)", x.write(48), 3);
    }

    // ---- promise 5

    private static void treaty() {
        due.of("5 10 times MULES, and ARTICLES: none");
        due.is("treaty()", Due.withText("M").treaty(), 0);
        due.of("5 10 times MULES, and ARTICLES: one of a kind");
        due.is("treaty of a mule", Due.withText("MM000").treaty(), 10);
        due.is("treaty of an article", Due.withText("MA000").treaty(), 1);
        due.of("5 10 times MULES, and ARTICLES: all there may be");
        due.is("treaty of mules", Due.withText("M" + MULES).treaty(), 50);
        due.is("treaty of articles", Due.withText("M" + ARTICLES).treaty(), 5);
        due.is("treaty of all", Due.withText("M" + ARTICLES + MULES).treaty(), 55);
        numberedEachKindForItself();
        theTextStays();
    }

    private static void numberedEachKindForItself() {
        due.of("5 PARTS, numbered as they are told, each kind for itself");
        MulesRemember x = Due.withTreaty("MA139M233A421M502A603M710A818M931A005M022");
        int[] ofArticles = {1, 4, 6, 8, 0};
        int[] ofMules = {2, 5, 7, 9, 0};
        for (int i = 0; i < 5; i++) {
            due.is("article(" + i + ", 0)", x.article(i, 0), ofArticles[i]);
            due.is("mule(" + i + ", 0)", x.mule(i, 0), ofMules[i]);
        }
    }

    private static void theTextStays() {
        due.of("5 THE TEXT itself stays");
        MulesRemember x = Due.withText("MA139M233");
        due.is("treaty()", x.treaty(), 11);
        due.is("about(6)", x.about(6), 9);
        due.is("fault()", x.fault(), NONE);
        due.is("treaty()", x.treaty(), 11);
        due.is("write(77)", x.write(77), 10);
    }

    /** All that a treaty made anew may touch: an hour, breaches, acts, slots, what is shown, sold, seen, the seed. */
    private static MulesRemember busy() {
        MulesRemember x = Due.withTreaty("MA520M402M401M400");
        x.see(1, 1, 1, 1, 1);
        x.seed(17);
        x.show(0, 1, 0);
        x.forget(0);
        x.show(2, 1, 0);
        x.step(0, 1);
        x.sell(1);
        x.keep(0);
        x.keep(1);
        return x;
    }

    private static void treatyAnew() {
        due.of("5 THE HOUR is 0, made anew");
        MulesRemember x = busy();
        due.is("about(2)", x.about(2), 1);
        x.treaty();
        due.is("about(2)", x.about(2), 0);
        due.of("5 nothing was BROKEN, made anew");
        x = busy();
        due.is("about(3)", x.about(3), 1);
        x.treaty();
        due.is("about(3)", x.about(3), 0);
        due.of("5 no ACTS");
        x = busy();
        due.is("about(4)", x.about(4), 5);
        x.treaty();
        due.is("about(4)", x.about(4), 0);
        due.is("undo()", x.undo(), LATE);
        due.is("pause()", x.pause(), 1);
        due.is("undo()", x.undo(), 0);
        whatWasKeptIsGone();
        seenAndSeedStay();
        allAsTold();
        fewerThanBefore();
    }

    private static void whatWasKeptIsGone() {
        due.of("5 what was kept is gone");
        MulesRemember x = busy();
        x.treaty();
        due.is("again(0)", x.again(0), LATE);
        due.is("again(1)", x.again(1), LATE);
        due.is("keep(1)", x.keep(1), 0);
        due.is("again(0)", x.again(0), LATE);
        due.is("again(1)", x.again(1), 0);
    }

    private static void seenAndSeedStay() {
        due.of("5 SEEN stays");
        MulesRemember x = busy();
        x.treaty();
        due.is("about(5)", x.about(5), 1);
        due.is("may(1, 0)", x.may(1, 0), 3 + 8 + 5);
        due.is("see(..)", x.see(1, 1, 1, 1, 1), 2);
        due.of("5 THE SEED stays");
        due.is("seed(0)", x.seed(0), 17);
    }

    private static void allAsTold() {
        due.of("5 STONES, KINDS are as they are told, made anew");
        MulesRemember x = busy();
        x.treaty();
        due.is("mule(0, 0)", x.mule(0, 0), 4);
        due.is("mule(1, 2)", x.mule(1, 2), 1);
        due.of("5 At first nobody was SHOWN any");
        due.is("mule(0, 3)", x.mule(0, 3), 0);
        due.is("mule(1, 3)", x.mule(1, 3), 0);
        due.is("mule(2, 3)", x.mule(2, 3), 0);
    }

    private static void fewerThanBefore() {
        due.of("5 THE TEXT is THE TREATY: what there was more is gone");
        MulesRemember x = Due.withTreaty("M" + ARTICLES + MULES);
        Due.rewrite(x, "MM902A911");
        due.is("treaty()", x.treaty(), 11);
        due.is("mule(1, 0)", x.mule(1, 0), UNKNOWN);
        due.is("article(1, 0)", x.article(1, 0), UNKNOWN);
        due.is("mule(0, 0)", x.mule(0, 0), 9);
        due.is("article(0, 0)", x.article(0, 0), 9);
        Due.rewrite(x, "M");
        due.is("treaty()", x.treaty(), 0);
        due.is("mule(0, 0)", x.mule(0, 0), UNKNOWN);
        due.is("article(0, 0)", x.article(0, 0), UNKNOWN);
    }

    private static void lateTreaty() {
        due.of("5 LATE: a FAULT, of the empty text");
        due.is("treaty()", new MulesRemember().treaty(), LATE);
        due.of("5 LATE: a FAULT, only not at its end");
        for (String text : new String[] {"MM", "MM0", "MM00", "MA", "MA0", "MA00", "MM000A", "MM000M11"}) {
            due.is("treaty of '" + text + "'", Due.withText(text).treaty(), LATE);
        }
        due.of("5 LATE: a FAULT, of a byte");
        for (String text : new String[] {"A", "X", "Mm000", "MM004", "MA040", "MM000X000"}) {
            due.is("treaty of '" + text + "'", Due.withText(text).treaty(), LATE);
        }
        due.of("5 LATE: a FAULT, one part more than there may be");
        due.is("a sixth mule", Due.withText("M" + MULES + "M000").treaty(), LATE);
        due.is("a sixth article", Due.withText("M" + ARTICLES + "A000").treaty(), LATE);
        lateTreatyChangesNothing();
    }

    private static void lateTreatyChangesNothing() {
        due.of("5 LATE changes nothing");
        MulesRemember x = busy();
        x.write('A');
        due.is("treaty()", x.treaty(), LATE);
        int[] about = {3, 1, 1, 1, 5, 1, 18};
        for (int what = 0; what <= 6; what++) {
            due.is("about(" + what + ")", x.about(what), about[what]);
        }
        due.is("mule(0, 0)", x.mule(0, 0), 5);
        due.is("mule(1, 2)", x.mule(1, 2), 3);
        due.is("mule(2, 3)", x.mule(2, 3), 1);
        due.is("undo()", x.undo(), 4);
        due.is("again(1)", x.again(1), 1);
        due.is("again(0)", x.again(0), 1);
        due.is("seed(0)", x.seed(0), 17);
    }
}
