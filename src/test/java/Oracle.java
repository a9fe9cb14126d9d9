import java.math.BigInteger;
import java.util.ArrayDeque;
import java.util.ArrayList;
import java.util.Deque;
import java.util.HashSet;
import java.util.List;
import java.util.Set;
import java.util.TreeSet;
import java.util.regex.Matcher;
import java.util.regex.Pattern;

/** Says what the document says, by brute force and copies of the whole world, with no code of MulesRemember. */
final class Oracle {
    private static final int UNKNOWN = -1, BAD = -2, LATE = -3, FULL = -4, NONE = -9;
    private static final Pattern TREATY = Pattern.compile("M(?:A[0-9][0-3][0-9]|M[0-9][0-3][0-3])*");

    private record Article(int stone, int sort, int v) { }

    private record Seen(int stone, int coat, int hour, int south, boolean balked) { }

    private record Fraction(BigInteger up, BigInteger low) {
        int part(boolean upper) {
            BigInteger gcd = up.gcd(low);
            return (upper ? up : low).divide(gcd).intValueExact();
        }
    }

    private static final class Mule {
        int stone, coat, kind;
        Set<Integer> shown = new TreeSet<>();

        Mule copy() {
            Mule m = new Mule();
            m.stone = stone;
            m.coat = coat;
            m.kind = kind;
            m.shown = new TreeSet<>(shown);
            return m;
        }
    }

    /** The mules and the hour, under a law. */
    private static final class World {
        List<Mule> mules = new ArrayList<>();
        List<Article> law = new ArrayList<>();
        int hour, broken;

        World copy() {
            World w = new World();
            for (Mule m : mules) {
                w.mules.add(m.copy());
            }
            w.law = law;
            w.hour = hour;
            w.broken = broken;
            return w;
        }

        Set<Integer> knows(int mule) {
            Mule m = mules.get(mule);
            Set<Integer> set = new TreeSet<>();
            for (int a = 0; a < law.size(); a++) {
                boolean shown = m.shown.contains(a);
                if (m.kind == 1 || m.kind == 0 && (a % 2 == 0 || shown) || m.kind == 2 && shown
                        || m.kind == 3 && a == law.size() - 1) {
                    set.add(a);
                }
            }
            return set;
        }

        boolean ridge(int mule, int way) {
            return way == 1 ? mules.get(mule).stone < 9 : mules.get(mule).stone > 0;
        }

        Set<Integer> by(int mule, int way) {
            Set<Integer> set = new TreeSet<>();
            Mule m = mules.get(mule);
            int onto = m.stone + (way == 1 ? 1 : -1);
            for (int a = 0; a < law.size(); a++) {
                Article article = law.get(a);
                if (article.stone != onto) {
                    continue;
                }
                int north = 0;
                for (Mule other : mules) {
                    north += other != m && other.stone >= onto ? 1 : 0;
                }
                boolean allowed = switch (article.sort) {
                    case 0 -> m.coat != article.v % 4;
                    case 1 -> hour % 10 >= article.v;
                    case 2 -> article.v % 2 == 1 ? way == 1 : way == 0;
                    default -> north >= article.v % 5;
                };
                if (!allowed) {
                    set.add(a);
                }
            }
            return set;
        }

        Set<Integer> balks(int mule, int way) {
            Set<Integer> set = by(mule, way);
            set.retainAll(knows(mule));
            return set;
        }

        boolean step(int mule, int way) {
            if (mule >= mules.size() || !ridge(mule, way) || !balks(mule, way).isEmpty()) {
                return false;
            }
            broken += by(mule, way).size();
            mules.get(mule).stone += way == 1 ? 1 : -1;
            hour++;
            return true;
        }
    }

    private String text = "";
    private World world = new World();
    private final Deque<World> acts = new ArrayDeque<>();
    private final World[] slots = new World[2];
    private final List<Seen> seen = new ArrayList<>();
    private long theSeed = 0;

    private static int bits(Set<Integer> set) {
        int bits = 0;
        for (int i : set) {
            bits += (int) Math.pow(2, i);
        }
        return bits;
    }

    private static int first(Set<Integer> set) {
        return set.isEmpty() ? NONE : new TreeSet<>(set).first();
    }

    private boolean noMule(int mule) {
        return mule < 0 || mule >= world.mules.size();
    }

    private boolean noArticle(int article) {
        return article < 0 || article >= world.law.size();
    }

    private void act() {
        acts.addLast(world.copy());
        if (acts.size() > 14) {
            acts.removeFirst();
        }
    }

    int write(int letter) {
        if (letter < 0 || letter > 255) {
            return BAD;
        }
        if (text.length() == 48) {
            return FULL;
        }
        text += (char) letter;
        return text.length();
    }

    int wipe() {
        int was = text.length();
        text = "";
        return was;
    }

    private static boolean canGoOn(String text) {
        int mules = 0, articles = 0;
        for (int i = 1; i < text.length(); i += 4) {
            mules += text.charAt(i) == 'M' ? 1 : 0;
            articles += text.charAt(i) == 'A' ? 1 : 0;
        }
        if (mules > 5 || articles > 5) {
            return false;
        }
        Matcher m = TREATY.matcher(text);
        return m.matches() || m.hitEnd();
    }

    int fault() {
        for (int i = 0; i < text.length(); i++) {
            if (!canGoOn(text.substring(0, i + 1))) {
                return i;
            }
        }
        return TREATY.matcher(text).matches() ? NONE : text.length();
    }

    int treaty() {
        if (fault() != NONE) {
            return LATE;
        }
        world = new World();
        for (String rest = text.substring(1); !rest.isEmpty(); rest = rest.substring(4)) {
            int a = rest.charAt(1) - '0', b = rest.charAt(2) - '0', c = rest.charAt(3) - '0';
            if (rest.startsWith("A")) {
                world.law.add(new Article(a, b, c));
            } else {
                Mule m = new Mule();
                m.stone = a;
                m.coat = b;
                m.kind = c;
                world.mules.add(m);
            }
        }
        acts.clear();
        slots[0] = null;
        slots[1] = null;
        return 10 * world.mules.size() + world.law.size();
    }

    int about(int what) {
        if (what < 0 || what > 6) {
            return BAD;
        }
        return new int[] {world.mules.size(), world.law.size(), world.hour, world.broken, acts.size(), seen.size(),
            text.length()}[what];
    }

    int article(int article, int what) {
        if (noArticle(article)) {
            return UNKNOWN;
        }
        if (what < 0 || what > 3) {
            return BAD;
        }
        Set<Integer> who = new TreeSet<>();
        for (int m = 0; m < world.mules.size(); m++) {
            if (world.knows(m).contains(article)) {
                who.add(m);
            }
        }
        Article a = world.law.get(article);
        return new int[] {a.stone, a.sort, a.v, bits(who)}[what];
    }

    int mule(int mule, int what) {
        if (noMule(mule)) {
            return UNKNOWN;
        }
        if (what < 0 || what > 4) {
            return BAD;
        }
        Mule m = world.mules.get(mule);
        return new int[] {m.stone, m.coat, m.kind, bits(m.shown), bits(world.knows(mule))}[what];
    }

    private int refusal(int mule, int way) {
        if (noMule(mule)) {
            return UNKNOWN;
        }
        if (way != 0 && way != 1) {
            return BAD;
        }
        return world.ridge(mule, way) ? 0 : LATE;
    }

    int by(int mule, int way) {
        return refusal(mule, way) != 0 ? refusal(mule, way) : bits(world.by(mule, way));
    }

    int balks(int mule, int way) {
        return refusal(mule, way) != 0 ? refusal(mule, way) : first(world.balks(mule, way));
    }

    int step(int mule, int way) {
        if (refusal(mule, way) != 0) {
            return refusal(mule, way);
        }
        World ahead = world.copy();
        if (!ahead.step(mule, way)) {
            return LATE;
        }
        act();
        world = ahead;
        return world.mules.get(mule).stone;
    }

    int pause() {
        act();
        return ++world.hour;
    }

    int show(int mule, int other, int article) {
        if (noMule(mule) || noMule(other) || noArticle(article)) {
            return UNKNOWN;
        }
        if (mule == other) {
            return BAD;
        }
        Mule m = world.mules.get(mule);
        if (m.stone != world.mules.get(other).stone || !world.knows(other).contains(article)
                || m.shown.contains(article)) {
            return LATE;
        }
        act();
        m.shown.add(article);
        return m.shown.size();
    }

    int sell(int mule) {
        if (noMule(mule)) {
            return UNKNOWN;
        }
        int kind = world.mules.get(mule).kind;
        if (kind == 3) {
            return LATE;
        }
        act();
        world.mules.get(mule).kind = 3;
        return kind;
    }

    int forget(int mule) {
        if (noMule(mule)) {
            return UNKNOWN;
        }
        int size = world.mules.get(mule).shown.size();
        if (size == 0) {
            return LATE;
        }
        act();
        world.mules.get(mule).shown.clear();
        return size;
    }

    int undo() {
        if (acts.isEmpty()) {
            return LATE;
        }
        world = acts.removeLast();
        return acts.size();
    }

    /** The stones on which a mule can be after so many steps and waits of it alone. */
    private Set<Integer> after(int mule, int spent, boolean honest) {
        Set<Integer> stones = new HashSet<>();
        if (spent == 0) {
            stones.add(world.mules.get(mule).stone);
            return stones;
        }
        for (int stone : after(mule, spent - 1, honest)) {
            stones.add(stone);
            for (int way = 0; way <= 1; way++) {
                World w = world.copy();
                w.hour += spent - 1;
                w.mules.get(mule).stone = stone;
                boolean free = w.ridge(mule, way) && (!honest || w.by(mule, way).isEmpty());
                if (free && w.step(mule, way)) {
                    stones.add(w.mules.get(mule).stone);
                }
            }
        }
        return stones;
    }

    int way(int mule, int stone, boolean honest) {
        if (noMule(mule) || stone < 0 || stone > 9) {
            return UNKNOWN;
        }
        for (int spent = 0; spent <= 12; spent++) {
            if (after(mule, spent, honest).contains(stone)) {
                return spent;
            }
        }
        return NONE;
    }

    int enclaves(int mule) {
        if (noMule(mule)) {
            return UNKNOWN;
        }
        Set<Integer> never = new TreeSet<>();
        for (int stone = 0; stone < 10; stone++) {
            if (way(mule, stone, false) == NONE) {
                never.add(stone);
            }
        }
        return bits(never);
    }

    private boolean taught(int mule, int set) {
        World w = world.copy();
        for (int a = 0; a < w.law.size(); a++) {
            if ((set & 1 << a) != 0) {
                w.mules.get(mule).shown.add(a);
            }
        }
        for (int way = 0; way <= 1; way++) {
            if (w.ridge(mule, way) && !w.by(mule, way).isEmpty() && w.balks(mule, way).isEmpty()) {
                return false;
            }
        }
        return true;
    }

    int teach(int mule) {
        if (noMule(mule)) {
            return UNKNOWN;
        }
        for (int size = 0; size <= 5; size++) {
            for (int set = 0; set < 1 << world.law.size(); set++) {
                boolean unknown = (set & bits(world.knows(mule))) == 0;
                if (Integer.bitCount(set) == size && unknown && taught(mule, set)) {
                    return set;
                }
            }
        }
        return NONE;
    }

    int differ(int mule, int other) {
        if (noMule(mule) || noMule(other)) {
            return UNKNOWN;
        }
        for (int a = 0; a < world.law.size(); a++) {
            if (world.knows(mule).contains(a) != world.knows(other).contains(a)) {
                return a;
            }
        }
        return NONE;
    }

    int judge(int n, int row) {
        if (n < 1 || n > 4 || row < 0 || Integer.toString(row).length() > 2 * n && row != 0) {
            return BAD;
        }
        String figures = "0".repeat(8) + row;
        figures = figures.substring(figures.length() - 2 * n);
        World w = world.copy();
        for (int place = 0; place < n; place++) {
            int one = figures.charAt(2 * place) - '0', two = figures.charAt(2 * place + 1) - '0';
            boolean fine = false;
            if (one == 0 && two == 0) {
                w.hour++;
                fine = true;
            } else if (one >= 1 && one <= 5 && two <= 1) {
                fine = w.step(one - 1, two) && w.broken == world.broken;
            } else if (one == 6 && two < w.mules.size()) {
                fine = w.mules.get(two).kind != 3;
                w.mules.get(two).kind = 3;
            } else if (one == 7 && two < w.mules.size()) {
                fine = !w.mules.get(two).shown.isEmpty();
                w.mules.get(two).shown.clear();
            }
            if (!fine) {
                return place;
            }
        }
        return NONE;
    }

    private int forbiddenSteps(Set<Integer> come) {
        int count = 0;
        for (int m = 0; m < world.mules.size(); m++) {
            for (int way = 0; way <= 1; way++) {
                Set<Integer> by = world.ridge(m, way) ? world.by(m, way) : new TreeSet<>();
                by.retainAll(come);
                count += by.isEmpty() ? 0 : 1;
            }
        }
        return count;
    }

    /** How many more in all orders of those that are to come; the orders are counted in tally[0]. */
    private int inAllOrders(int article, Set<Integer> come, int[] tally) {
        int more = 0;
        boolean all = true;
        for (int next = 0; next < world.law.size(); next++) {
            if (come.contains(next)) {
                continue;
            }
            all = false;
            Set<Integer> then = new TreeSet<>(come);
            then.add(next);
            int before = tally[0];
            more += inAllOrders(article, then, tally);
            if (next == article) {
                more += (forbiddenSteps(then) - forbiddenSteps(come)) * (tally[0] - before);
            }
        }
        tally[0] += all ? 1 : 0;
        return more;
    }

    int share(int article, boolean upper) {
        if (noArticle(article)) {
            return UNKNOWN;
        }
        int[] tally = {0};
        int more = inAllOrders(article, new TreeSet<>(), tally);
        return new Fraction(BigInteger.valueOf(more), BigInteger.valueOf(tally[0])).part(upper);
    }

    int see(int stone, int coat, int hour, int south, int balked) {
        if (stone < 0 || stone > 9) {
            return UNKNOWN;
        }
        if (coat < 0 || coat > 3 || hour < 0 || hour > 9 || south >> 1 != 0 || balked >> 1 != 0) {
            return BAD;
        }
        if (seen.size() == 6) {
            return FULL;
        }
        seen.add(new Seen(stone, coat, hour, south, balked == 1));
        return seen.size();
    }

    int unsee() {
        int was = seen.size();
        seen.clear();
        return was;
    }

    /** Whether an old one, alone in a world of one article, balks as it was seen. */
    private static boolean isSo(Seen s, int sort, int v) {
        World w = new World();
        w.law.add(new Article(5, sort, v));
        Mule m = new Mule();
        m.coat = s.coat;
        m.kind = 1;
        m.stone = s.south == 1 ? 4 : 6;
        w.mules.add(m);
        w.hour = s.hour;
        return w.balks(0, s.south).isEmpty() != s.balked;
    }

    int may(int stone, int what) {
        if (stone < 0 || stone > 9) {
            return UNKNOWN;
        }
        if (what != 0 && what != 1) {
            return BAD;
        }
        List<Integer> articles = new ArrayList<>();
        for (int i = 0; i < 30; i++) {
            boolean so = true;
            for (Seen s : seen) {
                so &= s.stone != stone || isSo(s, i / 10, i % 10);
            }
            if (so) {
                articles.add(i);
            }
        }
        return what == 0 ? articles.size() : articles.isEmpty() ? NONE : articles.get(0);
    }

    int rests(int what) {
        if (what != 0 && what != 1) {
            return BAD;
        }
        int s = 0;
        for (int m = 0; m < world.mules.size(); m++) {
            if (world.mules.get(m).stone != 9) {
                s += world.balks(m, 1).isEmpty() ? 1 : -1;
            }
        }
        int[][] own = {{0, -1}, {s, s < 0 ? -(-s / 2) : s / 2}};
        List<Integer> pairs = new ArrayList<>();
        for (int a = 0; a < 2; a++) {
            for (int b = 0; b < 2; b++) {
                if (own[1 - a][b] <= own[a][b] && own[1 - b][a] <= own[b][a]) {
                    pairs.add(10 * a + b);
                }
            }
        }
        return what == 0 ? pairs.size() : pairs.isEmpty() ? NONE : pairs.get(0);
    }

    int forgets(int way, int m, int x, boolean upper) {
        if (way != 0 && way != 1 || m < 0 || m > 5 || x < 0 || x > 10) {
            return BAD;
        }
        List<Integer> shown = new ArrayList<>();
        for (int i = 0; i < world.mules.size(); i++) {
            if (!world.mules.get(i).shown.isEmpty()) {
                shown.add(i);
            }
        }
        BigInteger part = BigInteger.ZERO;
        for (int set = 0; set < 1 << shown.size(); set++) {
            World w = world.copy();
            BigInteger chance = BigInteger.ONE;
            for (int i = 0; i < shown.size(); i++) {
                boolean forgets = (set & 1 << i) != 0;
                chance = chance.multiply(BigInteger.valueOf(forgets ? x : 10 - x));
                if (forgets) {
                    w.mules.get(shown.get(i)).shown.clear();
                }
            }
            int balking = 0;
            for (int i = 0; i < w.mules.size(); i++) {
                balking += w.ridge(i, way) && !w.balks(i, way).isEmpty() ? 1 : 0;
            }
            part = balking >= m ? part.add(chance) : part;
        }
        return new Fraction(part, BigInteger.TEN.pow(shown.size())).part(upper);
    }

    long seed(long v) {
        long was = theSeed;
        theSeed = v;
        return was;
    }

    int years(int m) {
        if (m < 1 || m > 30) {
            return BAD;
        }
        BigInteger size = BigInteger.TWO.pow(64);
        World w = world.copy();
        for (int i = 0; i < m; i++) {
            BigInteger x = BigInteger.valueOf(theSeed).multiply(new BigInteger("6364136223846793005"))
                .add(new BigInteger("1442695040888963407")).mod(size);
            theSeed = x.longValue();
            int lot = x.divide(BigInteger.TWO.pow(33)).mod(BigInteger.valueOf(12)).intValue();
            if (lot > 9 || !w.step(lot / 2, lot % 2)) {
                w.hour++;
            }
        }
        return w.broken - world.broken;
    }

    int keep(int slot) {
        if (slot != 0 && slot != 1) {
            return UNKNOWN;
        }
        slots[slot] = world.copy();
        return world.hour;
    }

    int again(int slot) {
        if (slot != 0 && slot != 1) {
            return UNKNOWN;
        }
        if (slots[slot] == null) {
            return LATE;
        }
        world = slots[slot].copy();
        acts.clear();
        return world.hour;
    }
}
