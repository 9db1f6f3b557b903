import java.util.ArrayList;
import java.util.List;
import java.util.Random;

/** Random runs of 512 calls, each answer compared with that of the plain model; the seeds are fixed. */
public final class RandomRunsTest {
    private static final int RUNS = 1500;
    private static final int CALLS = 512;
    private static final String[] CALLED = {
        "item", "item", "itemIs", "itemIs", "become", "as", "truth", "shift", "shift", "clock", "clock",
        "feed", "text", "TEXT", "TEXT", "untell", "law", "law",
        "air", "AIR", "breaks", "drop", "loose", "anew", "anew", "seed",
        "over", "fits", "spare", "tuned", "plan", "plan", "begins", "begins", "END", "END", "drops", "drops", "row", "row",
        "odds", "odds", "sums", "sums", "voice", "voice", "body", "body", "sheet", "put", "put", "move", "truths", "judge",
        "SUM", "JUDGE", "ODDS", "ODDS", "image", "restore", "tell", "TELL", "check", "count", "count", "told",
    };

    private final Random random;
    private final boolean atEdges;
    private final OffOnTheSecond x = new OffOnTheSecond();
    private final PlainModel model = new PlainModel();
    private final List<String> calls = new ArrayList<>();
    private boolean same = true;

    private RandomRunsTest(int seed) {
        random = new Random(seed);
        atEdges = seed % 3 == 2;
    }

    public static void main(String[] args) {
        for (int seed = 0; seed < RUNS; seed++) {
            Checks.holds("run " + seed, new RandomRunsTest(seed).run());
        }
        Checks.end();
    }

    private boolean run() {
        int first = random.nextInt(10);
        for (int i = 0; i < first; i++) {
            both("item", random.nextInt(70), random.nextInt(random.nextBoolean() ? 100 : 1000));
        }
        while (same && calls.size() < CALLS) {
            one(CALLED[random.nextInt(CALLED.length)]);
        }
        return same;
    }

    private void one(String name) {
        switch (name) {
            case "TEXT": feedText(); break;
            case "AIR": airWell(); break;
            case "END": endWell(); break;
            case "ODDS": oddsWell(); break;
            case "SUM": sumWell(); break;
            case "JUDGE": judgeWell(); break;
            case "TELL": tellWell(); break;
            case "item": both(name, near(0, 69), near(0, 999)); break;
            case "itemIs": both(name, anItem(), near(0, 6)); break;
            case "become": both(name, anItem(), near(0, 69)); break;
            case "as": both(name, anItem(), near(0, 6)); break;
            case "truth": both(name, anItem(), random.nextInt(3) == 0 ? 7 * near(0, 3) : near(0, 999)); break;
            case "shift": both(name, anItem(), anItem()); break;
            case "clock": both(name, near(0, 2), random.nextInt(3) == 0 ? near(0, 99) : near(0, 9999)); break;
            case "feed": both(name, random.nextBoolean() ? random.nextLong() : 0x2B702D6B2A6C2831L, near(1, 8)); break;
            case "text": case "untell": both(name, near(0, 1)); break;
            case "law": both(name, near(0, 1), number(), number(), number()); break;
            case "air": both(name, number()); break;
            case "breaks": both(name, near(1, 300)); break;
            case "loose": both(name, random.nextInt(4) == 0 ? near(1, 9) : 1); break;
            case "drop": both(name, random.nextInt(3) == 0 ? anItem() : near(7, 9)); break;
            case "seed": both(name, number()); break;
            case "plan": both(name, anItem()); break;
            case "begins": both(name, anItem(), near(0, 1)); break;
            case "drops": case "odds": both(name, near(0, 1)); break;
            case "row": both(name, near(-1, 5)); break;
            case "sums": both(name, near(0, 3), near(0, 1)); break;
            case "voice": both(name, anItem(), near(0, 3), number()); break;
            case "body": both(name, near(0, 6)); break;
            case "sheet": both(name, near(0, 3), 8 * random.nextInt(6), random.nextInt(3) == 0 ? 1 : near(0, 24)); break;
            case "put": both(name, near(0, 3), near(0, 4), number()); break;
            case "move": both(name, near(0, 3), near(0, 5), near(0, 3), near(0, 5), near(0, 5)); break;
            case "truths": case "judge": both(name, near(0, 3)); break;
            case "tell": both(name, number()); break;
            case "count": both(name, near(0, 11)); break;
            case "told": both(name, near(1, 6)); break;
            default: both(name); break;
        }
    }

    /** Mostly within the bounds, at times just or far beyond them; in every third run mostly at the bounds. */
    private int near(int low, int high) {
        if (atEdges && random.nextInt(3) > 0) {
            return random.nextBoolean() ? low : high;
        }
        int chance = random.nextInt(atEdges ? 12 : 40);
        if (chance == 0) {
            return low - 1;
        }
        if (chance == 1) {
            return high + 1;
        }
        if (chance == 2) {
            return number();
        }
        return low + random.nextInt(high - low + 1);
    }

    private int anItem() {
        return near(0, Math.max(0, x.count(0) - 1));
    }

    private int number() {
        int[] kept = {0, 1, -1, 2, 7, 127, 128, 200, 255, 256, 999, 1000, 32767, 32768, 65535,
            Integer.MAX_VALUE, Integer.MIN_VALUE, -1000000001, -1000000006};
        switch (random.nextInt(3)) {
            case 0: return kept[random.nextInt(kept.length)];
            case 1: return random.nextInt(200) - 20;
            default: return random.nextInt() >> random.nextInt(32);
        }
    }

    private void airWell() {
        int on = x.count(5);
        if (on >= 0) {
            int least = x.itemIs(on, 3);
            both("air", near(least, x.itemIs(on, 4)));
        }
    }

    private void endWell() {
        int least = x.count(6);
        int most = x.count(7);
        int leave = random.nextInt(3) == 0 ? 0 : random.nextInt(random.nextBoolean() ? 50 : 500);
        both("clock", 1, random.nextInt(3) * 100);
        both("clock", 0, Math.max(0, x.count(1) + near(least, most) - leave));
        both("fits");
        both("drops", 1);
        both("plan", anItem());
        both("begins", anItem(), near(0, 1));
        both("odds", 0);
        both("odds", 1);
    }

    /** END where some ways of the live ones fit and others don't. */
    private void oddsWell() {
        int end = x.count(1);
        boolean most = random.nextBoolean();
        for (int i = 0; i < x.count(0); i++) {
            if (x.itemIs(i, 6) == 0) {
                boolean live = x.itemIs(i, 0) == 3 || x.itemIs(i, 0) == 6;
                end += live ? x.itemIs(i, 2) + random.nextInt(x.itemIs(i, 1) + 1) : x.itemIs(i, most ? 4 : 3);
            }
        }
        both("clock", 0, end);
        both("odds", 0);
        both("odds", 1);
    }

    private void sumWell() {
        int sum = 0;
        for (int i = 0; i < x.count(0); i++) {
            sum += random.nextBoolean() ? x.itemIs(i, 2) : 0;
        }
        both("sheet", 1, 16, 1);
        both("put", 1, 0, sum);
        both("sums", 1, 0);
        both("sums", 1, 1);
    }

    private void judgeWell() {
        both("sheet", 2, 32, 9);
        for (int i = 0; i < 9; i++) {
            int item = random.nextInt(Math.max(1, x.count(0)));
            both("put", 2, i, x.count(0) == 0 ? 5 : near(x.itemIs(item, 3), x.itemIs(item, 4)));
        }
        both("judge", 2);
    }

    private void tellWell() {
        both("check");
        int many = near(0, x.count(0));
        for (int i = 0; i < many && i < 10; i++) {
            both("tell", i < x.count(0) && random.nextInt(9) > 0 ? x.itemIs(i, 2) : number());
        }
        both("check");
    }

    private void feedText() {
        StringBuilder text = new StringBuilder();
        int use = random.nextInt(2);
        write(text, use, random.nextInt(4), random.nextInt(7));
        for (int i = random.nextInt(3); i > 1 && text.length() > 0; i--) {
            text.setCharAt(random.nextInt(text.length()), "klpi01239+-*/%<=>|&!() \u00ff".charAt(random.nextInt(24)));
        }
        text.setLength(Math.min(text.length(), random.nextInt(20) == 0 ? random.nextInt(60) : 60));
        for (int from = 0; from < text.length(); from += 8) {
            int n = Math.min(8, text.length() - from);
            long word = random.nextLong();
            for (int i = 0; i < n; i++) {
                word = word & ~(255L << 8 * i) | (long) text.charAt(from + i) << 8 * i;
            }
            both("feed", word, n);
        }
        both("text", use);
        both("law", use, number(), number(), number());
        both("law", use, random.nextInt(7), random.nextInt(100), random.nextInt(9));
    }

    private void write(StringBuilder to, int use, int joins, int deep) {
        writeQ(to, use, deep);
        for (int i = 0; i < joins; i++) {
            to.append("+-*/%<=>|&+-*".charAt(random.nextInt(13)));
            writeQ(to, use, deep);
        }
    }

    private void writeQ(StringBuilder to, int use, int deep) {
        int chance = random.nextInt(6);
        if (deep > 0 && chance == 0) {
            to.append('!');
            writeQ(to, use, deep - 1);
        } else if (deep > 0 && chance <= 2) {
            to.append('(');
            write(to, use, random.nextInt(3), deep - 1);
            to.append(')');
        } else if (chance <= 4) {
            to.append((use == 0 ? "klp" : "ipk").charAt(random.nextInt(3)));
        } else {
            to.append(random.nextInt(random.nextInt(30) == 0 ? 100000 : 120));
        }
    }

    private void both(String name, long... a) {
        if (!same || calls.size() >= CALLS) {
            return;
        }
        StringBuilder call = new StringBuilder(name).append('(');
        for (int i = 0; i < a.length; i++) {
            call.append(i > 0 ? ", " : "").append(a[i]);
        }
        long got = asked(name, a);
        long want = model.call(name, a);
        calls.add(call.append(") = ").append(got).toString());
        if (got != want) {
            same = false;
            System.out.println(String.join("; ", calls) + "; due is " + want);
        }
    }

    private long asked(String name, long[] a) {
        int[] n = new int[5];
        for (int i = 0; i < a.length; i++) {
            n[i] = (int) a[i];
        }
        switch (name) {
            case "item": return x.item(n[0], n[1]);
            case "itemIs": return x.itemIs(n[0], n[1]);
            case "become": return x.become(n[0], n[1]);
            case "as": return x.as(n[0], n[1]);
            case "truth": return x.truth(n[0], n[1]);
            case "shift": return x.shift(n[0], n[1]);
            case "clock": return x.clock(n[0], n[1]);
            case "feed": return x.feed(a[0], n[1]);
            case "text": return x.text(n[0]);
            case "untell": return x.untell(n[0]);
            case "law": return x.law(n[0], n[1], n[2], n[3]);
            case "air": return x.air(n[0]);
            case "breaks": return x.breaks(n[0]);
            case "drop": return x.drop(n[0]);
            case "loose": return x.loose(n[0]);
            case "anew": return x.anew();
            case "seed": return x.seed(n[0]);
            case "over": return x.over();
            case "fits": return x.fits();
            case "spare": return x.spare();
            case "tuned": return x.tuned();
            default: return askedToo(name, n);
        }
    }

    private long askedToo(String name, int[] n) {
        switch (name) {
            case "plan": return x.plan(n[0]);
            case "begins": return x.begins(n[0], n[1]);
            case "drops": return x.drops(n[0]);
            case "row": return x.row(n[0]);
            case "odds": return x.odds(n[0]);
            case "sums": return x.sums(n[0], n[1]);
            case "voice": return x.voice(n[0], n[1], n[2]);
            case "body": return x.body(n[0]);
            case "sheet": return x.sheet(n[0], n[1], n[2]);
            case "put": return x.put(n[0], n[1], n[2]);
            case "move": return x.move(n[0], n[1], n[2], n[3], n[4]);
            case "truths": return x.truths(n[0]);
            case "judge": return x.judge(n[0]);
            case "image": return x.image();
            case "restore": return x.restore();
            case "tell": return x.tell(n[0]);
            case "check": return x.check();
            case "count": return x.count(n[0]);
            case "told": return x.told(n[0]);
            default: throw new IllegalArgumentException(name);
        }
    }
}
