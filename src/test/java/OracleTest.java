import java.util.Random;

/** All calls in random runs, by a fixed seed, against the oracle. */
public final class OracleTest {
    private static final int RUNS = 1500, CALLS = 500;
    private static final Due due = new Due();

    private final Random random;
    private final MulesRemember x = new MulesRemember();
    private final Oracle o = new Oracle();
    private String run = "";

    private OracleTest(long seed) {
        random = new Random(seed);
    }

    public static void main(String[] args) {
        int runs = args.length > 0 ? Integer.parseInt(args[0]) : RUNS;
        long from = args.length > 1 ? Long.parseLong(args[1]) : 0;
        for (int i = 0; i < runs; i++) {
            OracleTest test = new OracleTest(from + i);
            test.writeTreaty();
            for (int call = 100; call < CALLS; call++) {
                test.callAny();
            }
        }
        due.end();
    }

    private void is(String call, long got, long want) {
        due.is(run + " " + call, got, want);
    }

    /** 0 .. below - 1, now and then one beside it. */
    private int near(int below) {
        return random.nextInt(12) == 0 ? random.nextInt(below + 2) - 1 : random.nextInt(below);
    }

    private void writeTreaty() {
        StringBuilder text = new StringBuilder("M");
        int mules = random.nextInt(6), articles = random.nextInt(6);
        int stone = random.nextInt(10);
        while (mules + articles > 0) {
            if (random.nextInt(mules + articles) < mules) {
                mules--;
                text.append('M').append(close(stone)).append(random.nextInt(4)).append(random.nextInt(4));
            } else {
                articles--;
                text.append('A').append(close(stone)).append(random.nextInt(4)).append(random.nextInt(10));
            }
        }
        run = text.toString();
        is("wipe", x.wipe(), o.wipe());
        for (char letter : run.toCharArray()) {
            is("write", x.write(letter), o.write(letter));
        }
        is("fault", x.fault(), o.fault());
        is("treaty", x.treaty(), o.treaty());
    }

    private int close(int stone) {
        return Math.max(0, Math.min(9, stone + random.nextInt(4) - random.nextInt(3)));
    }

    private void callAny() {
        int kind = random.nextInt(100);
        if (kind < 4) {
            callText();
        } else if (kind < 25) {
            callAsk();
        } else if (kind < 60) {
            callAct();
        } else if (kind < 85) {
            callWays();
        } else {
            callRest();
        }
    }

    private void callText() {
        switch (random.nextInt(40)) {
            case 0 -> is("wipe", x.wipe(), o.wipe());
            case 1, 2 -> {
                if (x.about(6) + 60 < CALLS) {
                    is("treaty", x.treaty(), o.treaty());
                }
            }
            case 3, 4, 5, 6, 7, 8 -> is("fault", x.fault(), o.fault());
            default -> {
                int letter = random.nextInt(9) == 0 ? random.nextInt(260) - 2 : "MA0123456789".charAt(random.nextInt(12));
                is("write " + letter, x.write(letter), o.write(letter));
            }
        }
    }

    private void callAsk() {
        int a = near(5), b = near(5), way = near(2), what = near(7);
        switch (random.nextInt(5)) {
            case 0 -> is("about " + what, x.about(what), o.about(what));
            case 1 -> is("article " + a + " " + b, x.article(a, b), o.article(a, b));
            case 2 -> is("mule " + a + " " + b, x.mule(a, b), o.mule(a, b));
            case 3 -> is("by " + a + " " + way, x.by(a, way), o.by(a, way));
            default -> is("balks " + a + " " + way, x.balks(a, way), o.balks(a, way));
        }
    }

    private void callAct() {
        int a = near(5), b = near(5), c = near(5), way = near(2), slot = near(2);
        switch (random.nextInt(30)) {
            case 0, 1, 2, 3, 4, 5, 6, 7, 8 -> is("step " + a + " " + way, x.step(a, way), o.step(a, way));
            case 9, 10, 11 -> is("pause", x.pause(), o.pause());
            case 12 -> is("sell " + a, x.sell(a), o.sell(a));
            case 13, 14 -> is("forget " + a, x.forget(a), o.forget(a));
            case 15, 16, 17, 18 -> is("undo", x.undo(), o.undo());
            case 19 -> is("keep " + slot, x.keep(slot), o.keep(slot));
            case 20 -> is("again " + slot, x.again(slot), o.again(slot));
            default -> is("show " + a + " " + b + " " + c, x.show(a, b, c), o.show(a, b, c));
        }
    }

    private void callWays() {
        int a = near(5), b = near(5), stone = near(10);
        boolean flag = random.nextBoolean();
        switch (random.nextInt(20)) {
            case 0, 1, 2, 3 -> is("way " + a + " " + stone + flag, x.way(a, stone, flag), o.way(a, stone, flag));
            case 4 -> is("enclaves " + a, x.enclaves(a), o.enclaves(a));
            case 5, 6, 7, 8 -> is("teach " + a, x.teach(a), o.teach(a));
            case 9, 10 -> is("differ " + a + " " + b, x.differ(a, b), o.differ(a, b));
            case 11 -> is("share " + a + flag, x.share(a, flag), o.share(a, flag));
            default -> {
                int n = near(4) + 1, row = doings(n);
                is("judge " + n + " " + row, x.judge(n, row), o.judge(n, row));
            }
        }
    }

    /** Doings that mostly can be, so that long rows are judged to their end. */
    private int doings(int n) {
        int row = 0;
        for (int i = 0; i < n && row < 10_000_000; i++) {
            int doing = switch (random.nextInt(7)) {
                case 0 -> 0;
                case 1 -> 60 + near(5);
                case 2 -> 70 + near(5);
                case 3 -> random.nextInt(100);
                default -> 10 * (1 + random.nextInt(5)) + random.nextInt(2);
            };
            row = 100 * row + doing;
        }
        return random.nextInt(20) == 0 ? -row : random.nextInt(20) == 0 ? row * 10 : row;
    }

    private void callRest() {
        int stone = near(10), coat = near(4), hour = near(10), south = near(2), balked = near(2);
        int m = near(6), tenths = near(11), years = near(30) + 1;
        boolean flag = random.nextBoolean();
        switch (random.nextInt(12)) {
            case 0, 1 -> {
                int s = stone / 5 * 5;
                is("see " + s, x.see(s, coat, hour, south, balked), o.see(s, coat, hour, south, balked));
            }
            case 2 -> {
                if (random.nextInt(4) == 0) {
                    is("unsee", x.unsee(), o.unsee());
                }
            }
            case 3 -> is("may " + stone, x.may(stone / 5 * 5, south), o.may(stone / 5 * 5, south));
            case 4 -> is("may " + stone, x.may(stone, south), o.may(stone, south));
            case 5, 6 -> is("rests " + south, x.rests(south), o.rests(south));
            case 7, 8, 9 -> is("forgets " + south + " " + m + " " + tenths + flag, x.forgets(south, m, tenths, flag),
                o.forgets(south, m, tenths, flag));
            case 10 -> {
                long v = random.nextLong();
                is("seed " + v, x.seed(v), o.seed(v));
            }
            default -> is("years " + years, x.years(years), o.years(years));
        }
    }
}
