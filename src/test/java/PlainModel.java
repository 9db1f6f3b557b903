import java.math.BigInteger;
import java.util.ArrayDeque;
import java.util.ArrayList;
import java.util.Comparator;
import java.util.Deque;
import java.util.HashMap;
import java.util.List;
import java.util.Map;
import java.util.TreeSet;

/**
 * The document told a second time, in the slowest and most literal way and with other means than
 * the class (real inheritance, exceptions, sets of all possibilities), so that random runs can be
 * compared. It shares no code with the class.
 */
final class PlainModel {
    static final int LOW = -1000000000;

    static final class Wrong extends RuntimeException {
        private static final long serialVersionUID = 1L;
        final int k;

        Wrong(int k) {
            super(null, null, false, false);
            this.k = k;
        }
    }

    /** Kinds by inheritance, voices by super. */
    static class Item implements Cloneable {
        int number;
        int kind;
        int m;
        int truth;
        int fate;
        List<Integer> trace = new ArrayList<>();

        int least() { return truth; }
        int most() { return truth; }
        int reads(int x) { trace.add(10); return x + number; }
        int adlibs(int x) { trace.add(11); return reads(x) * 2; }
        int winds(int x) { trace.add(12); return adlibs(x) - m; }
        int parts(int x) {
            trace.add(13);
            return x / (m - number);
        }

        Item copy() {
            Item other = make(kind);
            other.number = number;
            other.kind = kind;
            other.m = m;
            other.truth = truth;
            other.fate = fate;
            return other;
        }
    }

    static class Sport extends Item {
        @Override int least() { return truth < 10 * m ? truth : 10 * m; }
        @Override int reads(int x) { trace.add(20); return super.reads(x) - 4; }
        @Override int parts(int x) { trace.add(21); return super.parts(x) + adlibs(1); }
    }

    static class Weather extends Item {
        @Override int least() { return 30; }
        @Override int most() { return 90; }
        @Override int adlibs(int x) { trace.add(30); return 0 - super.adlibs(x); }
    }

    static class Live extends Item {
        @Override int least() { return truth + m; }
        @Override int most() { return truth + 4 * m; }
        @Override int winds(int x) { trace.add(40); return super.winds(x / 2); }
    }

    static class Duck extends Sport {
        @Override int least() { return 0; }
        @Override int reads(int x) { trace.add(50); return super.reads(x) * 3; }
        @Override int winds(int x) { trace.add(51); return super.winds(x) ^ number; }
    }

    static class Breeze extends Weather {
        @Override int least() { return super.least() - m; }
        @Override int most() { return super.most() + 10 * m; }
        @Override int adlibs(int x) { trace.add(60); return super.adlibs(x + 1); }
    }

    static class Lisbon extends Live {
        @Override int least() { return super.least() + 40; }
        @Override int most() { return super.most() + 40; }
        @Override int reads(int x) { trace.add(70); return 9; }
        @Override int adlibs(int x) { trace.add(71); return super.adlibs(x) + m; }
    }

    static Item make(int kind) {
        switch (kind) {
            case 0: return new Item();
            case 1: return new Sport();
            case 2: return new Weather();
            case 3: return new Live();
            case 4: return new Duck();
            case 5: return new Breeze();
            default: return new Lisbon();
        }
    }

    static Class<?> classOf(int kind) {
        return make(kind).getClass();
    }

    /** What an image keeps. */
    static final class State {
        List<Item> items = new ArrayList<>();
        List<Item> order = new ArrayList<>();
        int end = 600;
        int now;
        int tune = 30;
        int z = 1;
        StringBuilder tape = new StringBuilder();
        List<Integer> waiting = new ArrayList<>();
        String[] texts = new String[2];

        State copy() {
            State other = new State();
            for (Item item : items) {
                other.items.add(item.copy());
            }
            for (Item item : order) {
                other.order.add(other.items.get(item.number));
            }
            other.end = end;
            other.now = now;
            other.tune = tune;
            other.z = z;
            other.tape.append(tape);
            other.waiting.addAll(waiting);
            other.texts = texts.clone();
            return other;
        }
    }

    private State s = new State();
    private State image;
    private int images;
    private final int[] told = new int[7];
    private final Object[] sheets = new Object[4];
    private List<Integer> trace = new ArrayList<>();

    long call(String name, long... a) {
        try {
            return answer(name, a);
        } catch (Wrong e) {
            told[e.k]++;
            return LOW - e.k;
        }
    }

    private static void beyondUnless(boolean good) {
        errorUnless(good, 1);
    }

    private static void errorUnless(boolean good, int k) {
        if (!good) {
            throw new Wrong(k);
        }
    }

    private Item itemAt(long i) {
        beyondUnless(i >= 0 && i < s.items.size());
        return s.items.get((int) i);
    }

    private List<Item> left() {
        List<Item> left = new ArrayList<>(s.order);
        left.removeIf(item -> item.fate != 0);
        return left;
    }

    private List<Item> leftByNumbers() {
        List<Item> left = left();
        left.sort(Comparator.comparingInt(item -> item.number));
        return left;
    }

    private boolean fits(List<Item> some, int there) {
        int least = 0;
        int most = 0;
        for (Item item : some) {
            least += item.least();
            most += item.most();
        }
        return least <= there && there <= most;
    }

    private long answer(String name, long[] a) {
        switch (name) {
            case "item": case "itemIs": case "become": case "as": case "truth": case "shift": case "clock":
                return items(name, a);
            case "feed": case "text": case "untell": case "law":
                return texts(name, a);
            case "air": case "breaks": case "drop": case "loose": case "anew": case "seed":
                return onAir(name, a);
            case "over": case "fits": case "spare": case "tuned": case "plan": case "begins":
                return times(name, a);
            case "drops": return drops(a[0]);
            case "row": return row(a[0]);
            case "odds": return odds(a[0]);
            case "sums": return sums(a[0], a[1]);
            case "voice": return voice(a[0], a[1], (int) a[2]);
            case "body":
                errorUnless(a[0] >= 0 && a[0] < Math.min(30, trace.size()), 2);
                return trace.get((int) a[0]);
            case "sheet": case "put": case "move": case "truths": case "judge":
                return sheets(name, a);
            default: return rest(name, a);
        }
    }

    private long items(String name, long[] a) {
        switch (name) {
            case "item": {
                beyondUnless(a[0] >= 0 && a[0] <= 69 && a[1] >= 0 && a[1] <= 999);
                errorUnless(s.items.size() < 9, 4);
                Item item = make((int) a[0] / 10);
                item.kind = (int) a[0] / 10;
                item.m = (int) a[0] % 10;
                item.truth = (int) a[1];
                item.number = s.items.size();
                s.items.add(item);
                s.order.add(item);
                return item.number;
            }
            case "itemIs": {
                Item item = itemAt(a[0]);
                beyondUnless(a[1] >= 0 && a[1] <= 6);
                int[] all = {item.kind, item.m, item.truth, item.least(), item.most(), s.order.indexOf(item), item.fate};
                return all[(int) a[1]];
            }
            case "become": {
                Item item = itemAt(a[0]);
                beyondUnless(a[1] >= 0 && a[1] <= 69);
                Item other = make((int) a[1] / 10);
                other.kind = (int) a[1] / 10;
                other.m = (int) a[1] % 10;
                other.truth = item.truth;
                other.fate = item.fate;
                other.number = item.number;
                s.items.set(item.number, other);
                s.order.set(s.order.indexOf(item), other);
                return item.kind;
            }
            case "as": {
                Item item = itemAt(a[0]);
                beyondUnless(a[1] >= 0 && a[1] <= 6);
                errorUnless(classOf((int) a[1]).isInstance(item), 5);
                return item.m;
            }
            case "truth": {
                Item item = itemAt(a[0]);
                beyondUnless(a[1] >= 0 && a[1] <= 999);
                int was = item.truth;
                item.truth = (int) a[1];
                return was;
            }
            case "shift": {
                Item item = itemAt(a[0]);
                beyondUnless(a[1] >= 0 && a[1] < s.items.size());
                errorUnless(item.fate == 0, 3);
                int was = s.order.indexOf(item);
                s.order.remove(was);
                s.order.add((int) a[1], item);
                return was;
            }
            default: {
                beyondUnless(a[0] >= 0 && a[0] <= 2 && a[1] >= 0 && a[1] <= (a[0] == 2 ? 99 : 9999));
                int was = a[0] == 0 ? s.end : a[0] == 1 ? s.now : s.tune;
                if (a[0] == 0) {
                    s.end = (int) a[1];
                } else if (a[0] == 1) {
                    s.now = (int) a[1];
                } else {
                    s.tune = (int) a[1];
                }
                return was;
            }
        }
    }

    private long texts(String name, long[] a) {
        if (name.equals("feed")) {
            beyondUnless(a[1] >= 1 && a[1] <= 8);
            errorUnless(s.tape.length() + a[1] <= 60, 4);
            for (int i = 0; i < a[1]; i++) {
                s.tape.append((char) (a[0] >>> 8 * i & 255));
            }
            return s.tape.length();
        }
        beyondUnless(a[0] == 0 || a[0] == 1);
        int use = (int) a[0];
        if (name.equals("text")) {
            String text = s.tape.toString();
            s.tape.setLength(0);
            if (new PlainText(text, use).isWhole()) {
                s.texts[use] = text;
                return 1;
            }
            return -10 - PlainText.fault(text, use);
        }
        if (name.equals("untell")) {
            boolean was = s.texts[use] != null;
            s.texts[use] = null;
            return was ? 1 : 0;
        }
        return law(use, (int) a[1], (int) a[2], (int) a[3]);
    }

    private int law(int use, int a, int b, int c) {
        int raw = s.texts[use] == null ? (use == 0 ? b : a * b) : new PlainText(s.texts[use], use).value(a, b, c);
        return use == 0 ? Math.min(999, Math.max(0, raw)) : Math.min(99, Math.max(-99, raw));
    }

    private int draw() {
        s.z = s.z * 1103515245 + 12345;
        return s.z >>> 8;
    }

    private long onAir(String name, long[] a) {
        switch (name) {
            case "air": {
                errorUnless(!left().isEmpty(), 3);
                Item on = left().get(0);
                beyondUnless(a[0] >= on.least() && a[0] <= on.most());
                errorUnless(s.now + a[0] <= 9999, 3);
                on.fate = 2;
                return s.now += (int) a[0];
            }
            case "breaks":
                beyondUnless(a[0] >= 1 && a[0] <= 300);
                errorUnless(s.now + a[0] <= 9999, 3);
                return s.now += (int) a[0];
            case "drop": {
                Item item = itemAt(a[0]);
                errorUnless(item.fate == 0, 3);
                item.fate = 1;
                return left().size();
            }
            case "loose": {
                beyondUnless(a[0] >= 1 && a[0] <= 9);
                int done = 0;
                while (done < a[0] && !left().isEmpty()) {
                    Item on = left().get(0);
                    int takes = on.least() + draw() % (on.most() - on.least() + 1);
                    if (s.now + takes > 9999) {
                        break;
                    }
                    s.now += takes;
                    on.fate = 2;
                    done++;
                }
                return done;
            }
            case "anew":
                s.now = 0;
                for (Item item : s.items) {
                    item.fate = item.fate == 2 ? 0 : item.fate;
                }
                return left().size();
            default: {
                int was = s.z;
                s.z = (int) a[0];
                return was;
            }
        }
    }

    private long times(String name, long[] a) {
        int there = s.end - s.now;
        List<Item> left = left();
        switch (name) {
            case "over": {
                int sum = s.now - s.end;
                for (Item item : left) {
                    sum += item.truth;
                }
                return sum;
            }
            case "fits": return fits(left, there) ? 1 : 0;
            case "spare": {
                int more = there;
                for (Item item : left) {
                    more -= item.least();
                }
                errorUnless(more >= 0, 2);
                return more;
            }
            case "tuned":
                errorUnless(there - s.tune >= 0, 3);
                return there - s.tune;
            case "plan": {
                Item item = itemAt(a[0]);
                errorUnless(item.fate == 0, 3);
                errorUnless(fits(left, there), 2);
                return plan(left, there).get(item);
            }
            default: {
                Item item = itemAt(a[0]);
                beyondUnless(a[1] == 0 || a[1] == 1);
                errorUnless(item.fate == 0, 3);
                errorUnless(fits(left, there), 2);
                TreeSet<Integer> begins = begins(left, item);
                return a[1] == 0 ? begins.first() : begins.last();
            }
        }
    }

    private Map<Item, Integer> plan(List<Item> left, int there) {
        Map<Item, Integer> plan = new HashMap<>();
        int rest = there;
        for (int i = 0; i < left.size(); i++) {
            int behind = 0;
            for (Item item : left.subList(i + 1, left.size())) {
                behind += item.least();
            }
            int takes = left.get(i).most();
            while (rest - takes < behind) {
                takes--;
            }
            plan.put(left.get(i), takes);
            rest -= takes;
        }
        return plan;
    }

    /** All seconds at which an item begins in ways that end on END: reached from NOW, and END is reached from them. */
    private TreeSet<Integer> begins(List<Item> left, Item item) {
        int place = left.indexOf(item);
        boolean[] fromNow = new boolean[30000];
        fromNow[s.now] = true;
        for (int i = 0; i < place; i++) {
            fromNow = step(fromNow, left.get(i), 1);
        }
        boolean[] toEnd = new boolean[30000];
        toEnd[s.end] = true;
        for (int i = left.size() - 1; i >= place; i--) {
            toEnd = step(toEnd, left.get(i), -1);
        }
        TreeSet<Integer> begins = new TreeSet<>();
        for (int t = 0; t < fromNow.length; t++) {
            if (fromNow[t] && toEnd[t]) {
                begins.add(t);
            }
        }
        return begins;
    }

    private static boolean[] step(boolean[] from, Item item, int way) {
        boolean[] to = new boolean[from.length];
        int lastSeen = -1;
        int span = item.most() - item.least();
        for (int i = 0; i < from.length; i++) {
            int t = way > 0 ? i : from.length - 1 - i;
            int source = t - way * item.least();
            if (source >= 0 && source < from.length && from[source]) {
                lastSeen = i;
            }
            to[t] = lastSeen >= 0 && i - lastSeen <= span;
        }
        return to;
    }

    private long drops(long what) {
        beyondUnless(what == 0 || what == 1);
        int best = -1;
        int bestWorth = 0;
        List<Item> left = leftByNumbers();
        for (int set = 0; set < 512; set++) {
            List<Item> others = new ArrayList<>();
            int gone = 0;
            int worth = 0;
            for (Item item : left) {
                if ((set >> item.number & 1) == 0) {
                    others.add(item);
                    worth += law(0, item.kind, item.truth, s.order.indexOf(item));
                } else {
                    gone |= 1 << item.number;
                }
            }
            if (gone != set || !fits(others, s.end - s.now)) {
                continue;
            }
            int many = Integer.bitCount(set);
            if (best < 0 || many < Integer.bitCount(best) || many == Integer.bitCount(best) && worth > bestWorth) {
                best = set;
                bestWorth = worth;
            }
        }
        errorUnless(best >= 0, 2);
        return what == 0 ? Integer.bitCount(best) : best;
    }

    private long row(long what) {
        beyondUnless(what >= -1 && what <= 5);
        List<Item> left = leftByNumbers();
        errorUnless(left.size() <= 6, 3);
        errorUnless(what < left.size(), 2);
        List<Item> best = new ArrayList<>();
        int[] bestLiked = {Integer.MIN_VALUE};
        int[][] liked = new int[10][10];
        for (Item item : left) {
            for (int p = 0; p < left.size(); p++) {
                liked[item.number][p] = law(1, item.number, p, item.kind);
            }
        }
        tryRows(left, new ArrayDeque<>(), 0, liked, best, bestLiked);
        return what < 0 ? bestLiked[0] : best.get((int) what).number;
    }

    /** All rows, the first by numbers first. */
    private void tryRows(List<Item> left, Deque<Item> row, int sum, int[][] liked, List<Item> best, int[] bestLiked) {
        if (row.size() == left.size() && sum > bestLiked[0]) {
            bestLiked[0] = sum;
            best.clear();
            best.addAll(row);
        }
        for (Item item : left) {
            if (!row.contains(item)) {
                int more = liked[item.number][row.size()];
                row.addLast(item);
                tryRows(left, row, sum + more, liked, best, bestLiked);
                row.removeLast();
            }
        }
    }

    private long odds(long part) {
        beyondUnless(part == 0 || part == 1);
        Map<Integer, BigInteger> ways = new HashMap<>();
        ways.put(0, BigInteger.ONE);
        List<Item> others = new ArrayList<>();
        for (Item item : left()) {
            if (item instanceof Live) {
                Map<Integer, BigInteger> more = new HashMap<>();
                for (Map.Entry<Integer, BigInteger> one : ways.entrySet()) {
                    for (int u = 0; u <= item.m; u++) {
                        more.merge(one.getKey() + item.truth + u, one.getValue(), BigInteger::add);
                    }
                }
                ways = more;
            } else {
                others.add(item);
            }
        }
        BigInteger good = BigInteger.ZERO;
        BigInteger all = BigInteger.ZERO;
        for (Map.Entry<Integer, BigInteger> one : ways.entrySet()) {
            all = all.add(one.getValue());
            if (fits(others, s.end - s.now - one.getKey())) {
                good = good.add(one.getValue());
            }
        }
        BigInteger by = good.gcd(all);
        return (part == 0 ? good : all).divide(by).longValueExact();
    }

    private long sums(long sheet, long what) {
        beyondUnless(sheet >= 0 && sheet < 4 && (what == 0 || what == 1));
        Object row = sheets[(int) sheet];
        errorUnless(row != null && lengthOf(row) == 1, 2);
        int want = numberAt(row, 0);
        int count = 0;
        int least = -1;
        for (int set = 511; set >= 0; set--) {
            int sum = 0;
            int there = 0;
            for (Item item : left()) {
                if ((set >> item.number & 1) != 0) {
                    sum += item.truth;
                    there |= 1 << item.number;
                }
            }
            if (there == set && sum == want) {
                count++;
                least = set;
            }
        }
        errorUnless(what == 0 || count > 0, 2);
        return what == 0 ? count : least;
    }

    private long voice(long i, long voice, int x) {
        Item item = itemAt(i);
        beyondUnless(voice >= 0 && voice <= 3);
        item.trace.clear();
        try {
            return voice == 0 ? item.reads(x) : voice == 1 ? item.adlibs(x) : voice == 2 ? item.winds(x) : item.parts(x);
        } catch (ArithmeticException e) {
            throw new Wrong(6);
        } finally {
            trace = new ArrayList<>(item.trace);
        }
    }

    private static int lengthOf(Object row) {
        return java.lang.reflect.Array.getLength(row);
    }

    private static int numberAt(Object row, int i) {
        return java.lang.reflect.Array.getInt(row, i);
    }

    private Object sheetAt(long sheet) {
        beyondUnless(sheet >= 0 && sheet < 4);
        errorUnless(sheets[(int) sheet] != null, 2);
        return sheets[(int) sheet];
    }

    private long sheets(String name, long[] a) {
        switch (name) {
            case "sheet": {
                beyondUnless(a[0] >= 0 && a[0] < 4 && (a[1] == 0 || a[1] == 8 || a[1] == 16 || a[1] == 32));
                if (a[1] == 0) {
                    sheets[(int) a[0]] = null;
                    return 1;
                }
                errorUnless(a[2] >= 0, 3);
                beyondUnless(a[2] <= 24);
                int n = (int) a[2];
                sheets[(int) a[0]] = a[1] == 8 ? new byte[n] : a[1] == 16 ? new short[n] : new int[n];
                return 1;
            }
            case "put": {
                Object row = sheetAt(a[0]);
                beyondUnless(a[1] >= 0 && a[1] < lengthOf(row));
                if (row instanceof byte[]) {
                    ((byte[]) row)[(int) a[1]] = (byte) a[2];
                } else if (row instanceof short[]) {
                    ((short[]) row)[(int) a[1]] = (short) a[2];
                } else {
                    ((int[]) row)[(int) a[1]] = (int) a[2];
                }
                return 1;
            }
            case "move": {
                beyondUnless(a[0] >= 0 && a[0] < 4 && a[2] >= 0 && a[2] < 4);
                Object from = sheetAt(a[0]);
                Object to = sheetAt(a[2]);
                try {
                    System.arraycopy(from, (int) a[1], to, (int) a[3], (int) a[4]);
                } catch (ArrayStoreException e) {
                    throw new Wrong(5);
                } catch (IndexOutOfBoundsException e) {
                    throw new Wrong(1);
                }
                return a[4];
            }
            case "truths": {
                Object row = sheetAt(a[0]);
                int n = 0;
                for (Item item : s.items) {
                    if (n >= lengthOf(row) || numberAt(row, n) < 0 || numberAt(row, n) > 999) {
                        break;
                    }
                    item.truth = numberAt(row, n++);
                }
                return n;
            }
            default: {
                Object row = sheetAt(a[0]);
                int n = 0;
                for (Item item : left()) {
                    if (n >= lengthOf(row) || numberAt(row, n) < item.least() || numberAt(row, n) > item.most()) {
                        break;
                    }
                    n++;
                }
                return n;
            }
        }
    }

    private long rest(String name, long[] a) {
        switch (name) {
            case "image":
                image = s.copy();
                return ++images;
            case "restore":
                errorUnless(image != null, 2);
                s = image.copy();
                return s.now;
            case "tell":
                errorUnless(s.waiting.size() < 24, 4);
                s.waiting.add((int) a[0]);
                return s.waiting.size();
            case "check": {
                List<Integer> numbers = s.waiting;
                s.waiting = new ArrayList<>();
                for (int i = 0; i < numbers.size(); i++) {
                    if (i >= s.items.size() || s.items.get(i).truth != numbers.get(i)) {
                        return i + 1;
                    }
                }
                return 0;
            }
            case "count": return count(a[0]);
            case "told":
                beyondUnless(a[0] >= 1 && a[0] <= 6);
                return told[(int) a[0]];
            default: throw new IllegalArgumentException(name);
        }
    }

    private long count(long what) {
        beyondUnless(what >= 0 && what <= 11);
        int least = 0;
        int most = 0;
        for (Item item : left()) {
            least += item.least();
            most += item.most();
        }
        int on = left().isEmpty() ? -1 : left().get(0).number;
        int[] all = {s.items.size(), s.now, s.end, s.tune, left().size(), on, least, most, s.tape.length(),
            s.waiting.size(), Math.min(30, trace.size()), s.z};
        return all[(int) what];
    }
}
