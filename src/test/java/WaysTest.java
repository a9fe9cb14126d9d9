/** Promises 17 to 22: ways, enclaves, lessons, differences, judgements, shares. */
public final class WaysTest {
    private static final int UNKNOWN = -1, BAD = -2, NONE = -9;
    private static final Due due = new Due();

    public static void main(String[] args) {
        way();
        wayAtTheEdgeOfTwelve();
        wayByHourAndOthers();
        wayRefusals();
        enclaves();
        teach();
        teachKinds();
        differ();
        judgeOneDoing();
        judgeRows();
        judgeRefusals();
        share();
        due.end();
    }

    private static void way() {
        MulesRemember x = Due.withTreaty("MA520M402M401M002");
        due.is("where it stands", x.way(0, 4, true), 0);
        due.is("a foal up", x.way(0, 5, false), 1);
        due.is("a foal up, honest", x.way(0, 5, true), NONE);
        due.is("an old one up", x.way(1, 5, false), NONE);
        due.is("a foal to the north end", x.way(0, 9, false), 5);
        due.is("to the south end, honest", x.way(0, 0, true), 4);
        due.is("from end to end", x.way(2, 9, false), 9);
        due.is("nothing is changed", x.about(2) + x.about(3) + x.about(4), 0);
        due.is("its stone", x.mule(2, 0), 0);
    }

    private static void wayAtTheEdgeOfTwelve() {
        MulesRemember x = Due.withTreaty("MA519M202M201M101");
        due.is("a wait of nine", x.way(1, 5, false), 10);
        due.is("two more stones", x.way(1, 7, false), 12);
        due.is("three more stones", x.way(1, 8, false), NONE);
        due.is("from further south", x.way(2, 7, false), 12);
        due.is("a foal", x.way(0, 8, false), 6);
        due.is("a foal, honest", x.way(0, 8, true), NONE);
        due.is("a foal, honest", x.way(0, 7, true), 12);
        Due.pauses(x, 9);
        due.is("at hour 9", x.way(1, 5, false), 11);
        due.is("at hour 9", x.way(1, 6, false), 12);
        due.is("at hour 9", x.way(1, 7, false), NONE);
    }

    private static void wayByHourAndOthers() {
        MulesRemember x = Due.withTreaty("MA519M401");
        due.is("at hour 0", x.way(0, 5, false), 10);
        Due.pauses(x, 9);
        due.is("at hour 9", x.way(0, 5, false), 1);
        x.pause();
        due.is("at hour 10", x.way(0, 5, false), 10);
        MulesRemember y = Due.withTreaty("MA532M401M601M302");
        due.is("one other is too few", y.way(0, 5, false), NONE);
        due.is("others do not move", y.way(0, 3, false), 1);
        y.step(2, 1);
        y.step(2, 1);
        due.is("two others", y.way(0, 5, false), 1);
        due.is("a foal's way", y.way(2, 3, false), 2);
        due.is("one other is too few for one of them", y.way(1, 4, true), NONE);
        MulesRemember z = Due.withTreaty("MA531M601M701M400");
        due.is("one other north of it", z.way(0, 5, false), 1);
        z.step(1, 0);
        z.step(1, 0);
        due.is("one other stands there", z.way(0, 4, false), 2);
        MulesRemember own = Due.withTreaty("MA531M601M400");
        due.is("it does not count itself", own.way(0, 5, false), NONE);
    }

    private static void wayRefusals() {
        MulesRemember x = Due.withTreaty("MM402");
        due.is("no such mule", x.way(1, 0, false), UNKNOWN);
        due.is("no such mule", x.way(-1, 0, false), UNKNOWN);
        due.is("no such stone", x.way(0, 10, false), UNKNOWN);
        due.is("no such stone", x.way(0, -1, true), UNKNOWN);
        due.is("stone 9", x.way(0, 9, true), 5);
        due.is("stone 0", x.way(0, 0, true), 4);
    }

    private static void enclaves() {
        MulesRemember x = Due.withTreaty("MA520A221M402M401M400M201");
        due.is("a foal", x.enclaves(0), 0);
        due.is("an old one", x.enclaves(1), 0b1111100111);
        due.is("a plain one", x.enclaves(2), 0b1111100000);
        due.is("its own is set aside", x.enclaves(3), 0b1111100000);
        MulesRemember y = Due.withTreaty("MA519M201M101M901");
        due.is("within twelve", y.enclaves(0), 0b1100000000);
        due.is("within twelve", y.enclaves(1), 0b1100000000);
        due.is("from the north", y.enclaves(2), 0b0000000111);
        due.is("nothing is changed", y.about(2), 0);
        MulesRemember z = Due.withTreaty("MA119M001");
        due.is("at hour 0", z.enclaves(0), 0b1111110000);
        Due.pauses(z, 9);
        due.is("at hour 9", z.enclaves(0), 0);
        due.is("no such mule", y.enclaves(3), UNKNOWN);
        due.is("no such mule", y.enclaves(-1), UNKNOWN);
    }

    private static void teach() {
        MulesRemember x = Due.withTreaty("MA512A520A519A321A311M402M401M702M002");
        due.is("one for each step", x.teach(0), 0b01001);
        due.is("an old one", x.teach(1), 0);
        due.is("none is forbidden", x.teach(2), 0);
        due.is("the south end", x.teach(3), 0);
        x.show(0, 1, 2);
        due.is("it balks at one", x.teach(0), 0b01000);
        x.show(0, 1, 4);
        due.is("it balks at both", x.teach(0), 0);
        MulesRemember y = Due.withTreaty("MA500A411A520A321A512M402");
        due.is("the least of like ones", y.teach(0), 0b01001);
        MulesRemember one = Due.withTreaty("MA910A519M402");
        due.is("the one that forbids", one.teach(0), 0b10);
        due.is("all there are", Due.withTreaty("MA519A319M402").teach(0), 0b11);
        due.is("the only one", Due.withTreaty("MA519M402").teach(0), 0b1);
        MulesRemember edge = Due.withTreaty("MA111A819M002M902");
        due.is("only one step at the south end", edge.teach(0), 0b01);
        due.is("only one step at the north end", edge.teach(1), 0b10);
    }

    private static void teachKinds() {
        MulesRemember x = Due.withTreaty("MA519A519A319M400M403M603M402");
        due.is("a plain one knows the even ones", x.teach(0), 0);
        due.is("one of a circus learns none", x.teach(1), NONE);
        due.is("at stone 6", x.teach(2), NONE);
        MulesRemember y = Due.withTreaty("MA911A519A519M403M400M402");
        due.is("one of a circus does its own", y.teach(0), 0);
        due.is("a plain one", y.teach(1), 0);
        due.is("a foal", y.teach(2), 0b010);
        MulesRemember z = Due.withTreaty("MA911A519M400M403M402M903");
        due.is("a plain one must be shown", z.teach(0), 0b10);
        z.sell(2);
        due.is("a sold one does the last", z.teach(2), 0);
        due.is("none is forbidden", z.teach(3), 0);
        due.is("no such mule", z.teach(4), UNKNOWN);
        due.is("no such mule", z.teach(-1), UNKNOWN);
        due.is("nothing is shown", z.mule(0, 3), 0);
    }

    private static void differ() {
        MulesRemember x = Due.withTreaty("MA000A000A000M400M401M402M403");
        due.is("plain, old", x.differ(0, 1), 1);
        due.is("old, plain", x.differ(1, 0), 1);
        due.is("plain, foal", x.differ(0, 2), 0);
        due.is("foal, circus", x.differ(2, 3), 2);
        due.is("itself", x.differ(2, 2), NONE);
        x.show(0, 1, 1);
        due.is("a plain one, shown", x.differ(0, 1), NONE);
        due.is("no such mule", x.differ(4, 0), UNKNOWN);
        due.is("no such mule", x.differ(0, 4), UNKNOWN);
        due.is("no such mule", x.differ(-1, 0), UNKNOWN);
        due.is("no such mule", x.differ(0, -1), UNKNOWN);
    }

    private static void judgeOneDoing() {
        MulesRemember x = Due.withTreaty("MA520M402M401M003M902");
        x.show(0, 1, 0);
        due.is("waited", x.judge(1, 0), NONE);
        for (int second = 1; second <= 9; second++) {
            due.is("0 and " + second, x.judge(1, second), 0);
            due.is("8 and " + second, x.judge(1, 80 + second), 0);
            due.is("9 and " + second, x.judge(1, 90 + second), 0);
        }
        due.is("8 and 0", x.judge(1, 80), 0);
        due.is("9 and 0", x.judge(1, 90), 0);
        due.is("mule 0 down", x.judge(1, 10), NONE);
        due.is("mule 0 up", x.judge(1, 11), 0);
        due.is("mule 0, no way", x.judge(1, 12), 0);
        due.is("mule 2 at the south end", x.judge(1, 30), 0);
        due.is("mule 2 up", x.judge(1, 31), NONE);
        due.is("mule 3 at the north end", x.judge(1, 41), 0);
        due.is("no mule 4", x.judge(1, 50), 0);
        due.is("mule 0 sold", x.judge(1, 60), NONE);
        due.is("mule 2 sold", x.judge(1, 62), 0);
        due.is("no mule 4 sold", x.judge(1, 64), 0);
        due.is("no mule 9 sold", x.judge(1, 69), 0);
        due.is("mule 0 forgot", x.judge(1, 70), NONE);
        due.is("mule 1 forgot", x.judge(1, 71), 0);
        due.is("no mule 4 forgot", x.judge(1, 74), 0);
        MulesRemember y = Due.withTreaty("MA520M402");
        due.is("a foal that would go breaks", y.judge(1, 11), 0);
    }

    private static void judgeRows() {
        MulesRemember x = Due.withTreaty("MA512A432A621M402M401M802M902M802");
        due.is("two waits and a step", x.judge(3, 11), NONE);
        due.is("a wait and a step", x.judge(2, 11), 1);
        due.is("and on up", x.judge(4, 1111), NONE);
        due.is("up and down again", x.judge(4, 1110), NONE);
        due.is("four mules", x.judge(4, 30405010), NONE);
        due.is("the first is the highest", x.judge(2, 1100), 0);
        due.is("sold once", x.judge(2, 6060), 1);
        due.is("sold, and one more", x.judge(2, 6061), NONE);
        due.is("the last one of four", x.judge(4, 60616465), 3);
        due.is("all of four", x.judge(4, 60616264), NONE);
        due.is("the first fault", x.judge(4, 60609999), 1);
        due.is("nothing is changed", x.mule(0, 2), 2);
        due.is("nor the hour", x.about(2), 0);
        x.show(0, 1, 0);
        due.is("forgot once", x.judge(2, 7070), 1);
        due.is("sold and forgot", x.judge(2, 6070), NONE);
        due.is("nothing is forgotten", x.mule(0, 3), 1);
        due.is("acts", x.about(4), 1);
        MulesRemember y = Due.withTreaty("MA531M402M502");
        due.is("one other is there", y.judge(1, 11), NONE);
        due.is("the other one went", y.judge(2, 2011), 1);
    }

    private static void judgeRefusals() {
        MulesRemember x = Due.withTreaty("MM402");
        due.is("n 0", x.judge(0, 0), BAD);
        due.is("n -1", x.judge(-1, 0), BAD);
        due.is("n 5", x.judge(5, 0), BAD);
        due.is("row -1", x.judge(1, -1), BAD);
        due.is("3 figures of 2", x.judge(1, 100), BAD);
        due.is("2 figures of 2", x.judge(1, 99), 0);
        due.is("5 figures of 4", x.judge(2, 10000), BAD);
        due.is("4 figures of 4", x.judge(2, 9999), 0);
        due.is("7 figures of 6", x.judge(3, 1000000), BAD);
        due.is("6 figures of 6", x.judge(3, 100000), NONE);
        due.is("9 figures of 8", x.judge(4, 100000000), BAD);
        due.is("8 figures of 8", x.judge(4, 99999999), 0);
        due.is("the most", x.judge(4, Integer.MAX_VALUE), BAD);
        due.is("the least", x.judge(4, Integer.MIN_VALUE), BAD);
    }

    private static void shareIs(MulesRemember x, int article, int upper, int lower) {
        due.is("share(" + article + ", true)", x.share(article, true), upper);
        due.is("share(" + article + ", false)", x.share(article, false), lower);
    }

    private static void share() {
        MulesRemember x = Due.withTreaty("MA519A512A520A301A910M402M400M412M601");
        shareIs(x, 0, 3, 2);
        shareIs(x, 1, 3, 2);
        shareIs(x, 2, 1, 1);
        shareIs(x, 3, 1, 1);
        shareIs(x, 4, 0, 1);
        MulesRemember two = Due.withTreaty("MA519A512M402");
        shareIs(two, 0, 1, 2);
        shareIs(two, 1, 1, 2);
        MulesRemember three = Due.withTreaty("MA519A512A520M402M402");
        shareIs(three, 0, 2, 3);
        MulesRemember mixed = Due.withTreaty("MA519A520A312M402M602M001");
        shareIs(mixed, 0, 3, 2);
        shareIs(mixed, 1, 1, 2);
        shareIs(mixed, 2, 1, 1);
        MulesRemember five = Due.withTreaty("MA519A518A517A516A515M402");
        shareIs(five, 4, 1, 5);
        MulesRemember ends = Due.withTreaty("MA019A919M002M902M102M802");
        shareIs(ends, 0, 1, 1);
        shareIs(ends, 1, 1, 1);
        due.is("no such article", ends.share(2, true), UNKNOWN);
        due.is("no such article", ends.share(-1, false), UNKNOWN);
    }
}
