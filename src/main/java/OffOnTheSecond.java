/** Off the air on the second: items in an order that must be over when the pips go. */
public final class OffOnTheSecond {
    private static final int LOW = -1000000000;
    private static final int BEYOND = 1;
    private static final int NONE = 2;
    private static final int STATE = 3;
    private static final int FULL = 4;
    private static final int KIND = 5;
    private static final int PARTED = 6;

    private static final int MOST_ITEMS = 9;
    private static final int MOST_TRUE = 999;
    private static final int LATEST = 9999;
    private static final int LONGEST_TUNE = 99;
    private static final int LONGEST_NEWS = 300;
    private static final int MOST_LOOSE = 9;
    private static final int MOST_IN_A_ROW = 6;

    private static final int SPORT = 1;
    private static final int WEATHER = 2;
    private static final int LIVE = 3;
    private static final int DUCK = 4;
    private static final int BREEZE = 5;
    private static final int LISBON = 6;
    private static final int LAST_KIND = 6;

    private static final int LEFT = 0;
    private static final int DROPPED = 1;
    private static final int DONE = 2;

    private static final int TAPE_ROOM = 60;
    private static final int WAITING_ROOM = 24;
    private static final int SHEETS = 4;
    private static final int SHEET_ROOM = 24;
    private static final int TRACE_ROOM = 30;

    private final Show show = new Show();
    private final Show kept = new Show();
    private int images = 0;
    private final Line errors = new Line(PARTED + 1);
    private final Reader reader = new Reader();
    private final Sets sets = new Sets();
    private final Rows rows = new Rows();
    private final Odds chances = new Odds();
    private final Voices voices = new Voices();
    private final Sheet[] sheets = new Sheet[SHEETS];

    public OffOnTheSecond() {
        for (int i = 0; i < sheets.length; i++) {
            sheets[i] = new Sheet();
        }
    }

    // ---- items, the order

    public int item(int km, int truth) {
        if (!isKm(km) || !isTruth(truth)) {
            return error(BEYOND);
        }
        if (show.items.size >= MOST_ITEMS) {
            return error(FULL);
        }
        return show.items.append(km, truth);
    }

    public int itemIs(int item, int what) {
        Items items = show.items;
        if (!items.has(item)) {
            return error(BEYOND);
        }
        switch (what) {
            case 0: return items.kinds.at(item);
            case 1: return items.ms.at(item);
            case 2: return items.trues.at(item);
            case 3: return items.least(item);
            case 4: return items.most(item);
            case 5: return items.placeOf(item);
            case 6: return items.fates.at(item);
            default: return error(BEYOND);
        }
    }

    public int become(int item, int km) {
        if (!show.items.has(item) || !isKm(km)) {
            return error(BEYOND);
        }
        int before = show.items.kinds.at(item);
        show.items.name(item, km);
        return before;
    }

    public int as(int item, int kind) {
        if (!show.items.has(item) || kind < 0 || kind > LAST_KIND) {
            return error(BEYOND);
        }
        if (!show.items.isOf(item, kind)) {
            return error(KIND);
        }
        return show.items.ms.at(item);
    }

    public int truth(int item, int v) {
        if (!show.items.has(item) || !isTruth(v)) {
            return error(BEYOND);
        }
        int before = show.items.trues.at(item);
        show.items.trues.set(item, v);
        return before;
    }

    public int shift(int item, int place) {
        if (!show.items.has(item) || !show.items.has(place)) {
            return error(BEYOND);
        }
        if (!show.items.isLeft(item)) {
            return error(STATE);
        }
        return show.items.bringTo(item, place);
    }

    public int clock(int what, int v) {
        if (what < 0 || what > 2 || v < 0 || v > (what == 2 ? LONGEST_TUNE : LATEST)) {
            return error(BEYOND);
        }
        return show.setClock(what, v);
    }

    // ---- texts

    public int feed(long word, int n) {
        if (n < 1 || n > 8) {
            return error(BEYOND);
        }
        if (!show.tape.hasRoom(n)) {
            return error(FULL);
        }
        for (int i = 0; i < n; i++) {
            show.tape.append((int) ((word >>> (8 * i)) & 255));
        }
        return show.tape.size;
    }

    public int text(int use) {
        if (!isUse(use)) {
            return error(BEYOND);
        }
        int fault = reader.faultOf(show.tape, use);
        show.tape.clear();
        if (fault >= 0) {
            return -10 - fault;
        }
        show.textOf(use).learn(reader.code);
        return 1;
    }

    public int untell(int use) {
        if (!isUse(use)) {
            return error(BEYOND);
        }
        return show.textOf(use).forget() ? 1 : 0;
    }

    public int law(int use, int a, int b, int c) {
        if (!isUse(use)) {
            return error(BEYOND);
        }
        return use == 0 ? show.worthBy(a, b, c) : show.likingBy(a, b, c);
    }

    // ---- on the air

    public int air(int seconds) {
        int on = show.items.on();
        if (on < 0) {
            return error(STATE);
        }
        if (seconds < show.items.least(on) || seconds > show.items.most(on)) {
            return error(BEYOND);
        }
        if (show.now + seconds > LATEST) {
            return error(STATE);
        }
        return show.finish(on, seconds);
    }

    public int breaks(int seconds) {
        if (seconds < 1 || seconds > LONGEST_NEWS) {
            return error(BEYOND);
        }
        if (show.now + seconds > LATEST) {
            return error(STATE);
        }
        show.now += seconds;
        return show.now;
    }

    public int drop(int item) {
        if (!show.items.has(item)) {
            return error(BEYOND);
        }
        if (!show.items.isLeft(item)) {
            return error(STATE);
        }
        show.items.fates.set(item, DROPPED);
        return show.items.howManyLeft();
    }

    public int loose(int n) {
        if (n < 1 || n > MOST_LOOSE) {
            return error(BEYOND);
        }
        int done = 0;
        for (int i = 0; i < n && show.finishesOneByDraw(); i++) {
            done++;
        }
        return done;
    }

    public int anew() {
        show.now = 0;
        show.items.bringBackDone();
        return show.items.howManyLeft();
    }

    public int seed(int v) {
        int before = show.z;
        show.z = v;
        return before;
    }

    // ---- what would be

    public int over() {
        return show.items.trueOfLeft() - show.there();
    }

    public int fits() {
        return show.fitsLeft() ? 1 : 0;
    }

    public int spare() {
        int seconds = show.there() - show.items.leastOfLeft();
        return seconds < 0 ? error(NONE) : seconds;
    }

    public int tuned() {
        int seconds = show.there() - show.tune;
        return seconds < 0 ? error(STATE) : seconds;
    }

    public int plan(int item) {
        if (!show.items.has(item)) {
            return error(BEYOND);
        }
        if (!show.items.isLeft(item)) {
            return error(STATE);
        }
        return show.fitsLeft() ? show.planned(item) : error(NONE);
    }

    public int begins(int item, int what) {
        if (!show.items.has(item) || what < 0 || what > 1) {
            return error(BEYOND);
        }
        if (!show.items.isLeft(item)) {
            return error(STATE);
        }
        if (!show.fitsLeft()) {
            return error(NONE);
        }
        return what == 0 ? show.earliest(item) : show.latest(item);
    }

    public int drops(int what) {
        if (what < 0 || what > 1) {
            return error(BEYOND);
        }
        if (!sets.findsDrops(show)) {
            return error(NONE);
        }
        return what == 0 ? Integer.bitCount(sets.found) : sets.found;
    }

    public int row(int what) {
        if (what < -1 || what >= MOST_IN_A_ROW) {
            return error(BEYOND);
        }
        int left = show.items.howManyLeft();
        if (left > MOST_IN_A_ROW) {
            return error(STATE);
        }
        if (what >= left) {
            return error(NONE);
        }
        rows.think(show);
        return what < 0 ? rows.liked : rows.chosen.at(what);
    }

    public long odds(int part) {
        if (part < 0 || part > 1) {
            return error(BEYOND);
        }
        chances.think(show);
        return part == 0 ? chances.above : chances.below;
    }

    public int sums(int sheet, int what) {
        if (!isSheet(sheet) || what < 0 || what > 1) {
            return error(BEYOND);
        }
        Sheet from = sheetAt(sheet);
        if (isMissing(from) || from.numbers.size != 1) {
            return error(NONE);
        }
        int howMany = sets.countSums(show, from.numbers.at(0));
        if (what == 0) {
            return howMany;
        }
        return howMany == 0 ? error(NONE) : sets.found;
    }

    // ---- voices, sheets, images, what is told

    public int voice(int item, int voice, int x) {
        if (!show.items.has(item) || voice < 0 || voice > Voices.PARTS) {
            return error(BEYOND);
        }
        int answer = voices.hear(show.items, item, voice, x);
        return voices.parted ? error(PARTED) : answer;
    }

    public int body(int i) {
        return i < 0 || i >= voices.trace.size ? error(NONE) : voices.trace.at(i);
    }

    public int sheet(int sheet, int bits, int n) {
        if (!isSheet(sheet) || (bits != 0 && bits != 8 && bits != 16 && bits != 32)) {
            return error(BEYOND);
        }
        if (bits != 0 && n < 0) {
            return error(STATE);
        }
        if (bits != 0 && n > SHEET_ROOM) {
            return error(BEYOND);
        }
        Sheet laid = sheetAt(sheet);
        if (laid != null) {
            laid.lay(bits, bits == 0 ? 0 : n);
        }
        return 1;
    }

    public int put(int sheet, int i, int v) {
        if (!isSheet(sheet)) {
            return error(BEYOND);
        }
        Sheet to = sheetAt(sheet);
        if (isMissing(to)) {
            return error(NONE);
        }
        if (i < 0 || i >= to.numbers.size) {
            return error(BEYOND);
        }
        to.write(i, v);
        return 1;
    }

    public int move(int sheet, int i, int other, int j, int n) {
        if (!isSheet(sheet) || !isSheet(other)) {
            return error(BEYOND);
        }
        Sheet from = sheetAt(sheet);
        Sheet to = sheetAt(other);
        if (isMissing(from) || isMissing(to)) {
            return error(NONE);
        }
        if (from.bits != to.bits) {
            return error(KIND);
        }
        if (!from.numbers.spans(i, n) || !to.numbers.spans(j, n)) {
            return error(BEYOND);
        }
        System.arraycopy(from.numbers.cells, i, to.numbers.cells, j, n);
        return n;
    }

    public int truths(int sheet) {
        if (!isSheet(sheet)) {
            return error(BEYOND);
        }
        Sheet from = sheetAt(sheet);
        if (isMissing(from)) {
            return error(NONE);
        }
        int taken = 0;
        for (int i = 0; i < from.numbers.size && i < show.items.size && isTruth(from.numbers.at(i)); i++) {
            show.items.trues.set(i, from.numbers.at(i));
            taken++;
        }
        return taken;
    }

    public int judge(int sheet) {
        if (!isSheet(sheet)) {
            return error(BEYOND);
        }
        Sheet from = sheetAt(sheet);
        if (isMissing(from)) {
            return error(NONE);
        }
        return show.items.howManyWithin(from.numbers);
    }

    public int image() {
        kept.takeFrom(show);
        images++;
        return images;
    }

    public int restore() {
        if (images == 0) {
            return error(NONE);
        }
        show.takeFrom(kept);
        return show.now;
    }

    public int tell(int v) {
        if (!show.waiting.hasRoom(1)) {
            return error(FULL);
        }
        show.waiting.append(v);
        return show.waiting.size;
    }

    public int check() {
        int unlike = show.items.firstUnlike(show.waiting);
        show.waiting.clear();
        return unlike + 1;
    }

    public int count(int what) {
        switch (what) {
            case 0: return show.items.size;
            case 1: return show.now;
            case 2: return show.end;
            case 3: return show.tune;
            case 4: return show.items.howManyLeft();
            case 5: return show.items.on();
            case 6: return show.items.leastOfLeft();
            case 7: return show.items.mostOfLeft();
            case 8: return show.tape.size;
            case 9: return show.waiting.size;
            case 10: return voices.trace.size;
            case 11: return show.z;
            default: return error(BEYOND);
        }
    }

    public int told(int k) {
        return k < BEYOND || k > PARTED ? error(BEYOND) : errors.at(k);
    }

    private int error(int k) {
        errors.set(k, errors.at(k) + 1);
        return LOW - k;
    }

    private Sheet sheetAt(int sheet) {
        return sheet >= 0 && sheet < sheets.length ? sheets[sheet] : null;
    }

    private static boolean isSheet(int sheet) {
        return sheet >= 0 && sheet < SHEETS;
    }

    private static boolean isMissing(Sheet sheet) {
        return sheet == null || sheet.bits == 0;
    }

    private static boolean isKm(int km) {
        return km >= 0 && km <= 10 * LAST_KIND + 9;
    }

    private static boolean isTruth(int v) {
        return v >= 0 && v <= MOST_TRUE;
    }

    private static boolean isUse(int use) {
        return use == 0 || use == 1;
    }

    private static int within(int low, int high, int v) {
        return Math.max(low, Math.min(high, v));
    }

    /** Numbers in a room of fixed length, made once and used again; beyond the room stands 0. */
    private static final class Line {
        final int[] cells;
        int size = 0;

        Line(int room) {
            cells = new int[Math.max(0, room)];
        }

        boolean hasRoom(int n) {
            return n <= cells.length - size;
        }

        boolean spans(int from, int n) {
            return from >= 0 && n >= 0 && n <= size && from <= size - n;
        }

        int at(int i) {
            return i >= 0 && i < cells.length ? cells[i] : 0;
        }

        void set(int i, int v) {
            if (i >= 0 && i < cells.length) {
                cells[i] = v;
            }
        }

        void append(int v) {
            if (size >= 0 && size < cells.length) {
                cells[size] = v;
                size++;
            }
        }

        int last() {
            return size > 0 && size <= cells.length ? cells[size - 1] : 0;
        }

        int takeLast() {
            if (size <= 0 || size > cells.length) {
                return 0;
            }
            size--;
            return cells[size];
        }

        void clear() {
            size = 0;
        }

        void takeFrom(Line other) {
            for (int i = 0; i < cells.length; i++) {
                cells[i] = other.at(i);
            }
            size = Math.min(other.size, cells.length);
        }
    }

    /** The ITEMS and THE ORDER. */
    private static final class Items {
        private static final int[] KIND_ABOVE = {-1, 0, 0, 0, SPORT, WEATHER, LIVE};

        int size = 0;
        final Line kinds = new Line(MOST_ITEMS);
        final Line ms = new Line(MOST_ITEMS);
        final Line trues = new Line(MOST_ITEMS);
        final Line fates = new Line(MOST_ITEMS);
        final Line order = new Line(MOST_ITEMS);

        static int above(int kind) {
            return kind >= 0 && kind < KIND_ABOVE.length ? KIND_ABOVE[kind] : -1;
        }

        static boolean isUnder(int kind, int other) {
            int at = kind;
            for (int i = 0; i <= LAST_KIND && at >= 0 && at != other; i++) {
                at = above(at);
            }
            return at == other;
        }

        boolean has(int item) {
            return item >= 0 && item < size;
        }

        boolean isLeft(int item) {
            return has(item) && fates.at(item) == LEFT;
        }

        boolean isOf(int item, int kind) {
            return isUnder(kinds.at(item), kind);
        }

        int append(int km, int truth) {
            int item = size;
            name(item, km);
            trues.set(item, truth);
            fates.set(item, LEFT);
            order.set(item, item);
            size++;
            return item;
        }

        void name(int item, int km) {
            kinds.set(item, km / 10);
            ms.set(item, km % 10);
        }

        int least(int item) {
            int v = trues.at(item);
            int m = ms.at(item);
            switch (kinds.at(item)) {
                case SPORT: return Math.min(v, 10 * m);
                case WEATHER: return 30;
                case LIVE: return v + m;
                case DUCK: return 0;
                case BREEZE: return 30 - m;
                case LISBON: return v + m + 40;
                default: return v;
            }
        }

        int most(int item) {
            int v = trues.at(item);
            int m = ms.at(item);
            switch (kinds.at(item)) {
                case WEATHER: return 90;
                case LIVE: return v + 4 * m;
                case BREEZE: return 90 + 10 * m;
                case LISBON: return v + 4 * m + 40;
                default: return v;
            }
        }

        int placeOf(int item) {
            int place = 0;
            for (int p = 0; p < size; p++) {
                if (order.at(p) == item) {
                    place = p;
                }
            }
            return place;
        }

        int bringTo(int item, int place) {
            int before = placeOf(item);
            for (int p = before; p < place; p++) {
                order.set(p, order.at(p + 1));
            }
            for (int p = before; p > place; p--) {
                order.set(p, order.at(p - 1));
            }
            order.set(place, item);
            return before;
        }

        int on() {
            for (int p = 0; p < size; p++) {
                if (isLeft(order.at(p))) {
                    return order.at(p);
                }
            }
            return -1;
        }

        int leftSet() {
            int set = 0;
            for (int i = 0; i < size; i++) {
                if (isLeft(i)) {
                    set |= 1 << i;
                }
            }
            return set;
        }

        int howManyLeft() {
            return Integer.bitCount(leftSet());
        }

        int trueOfLeft() {
            int sum = 0;
            for (int i = 0; i < size; i++) {
                sum += isLeft(i) ? trues.at(i) : 0;
            }
            return sum;
        }

        int leastOfLeft() {
            return leastOfLeftFrom(0);
        }

        int mostOfLeft() {
            return mostOfLeftFrom(0);
        }

        int leastOfLeftFrom(int place) {
            int sum = 0;
            for (int p = Math.max(0, place); p < size; p++) {
                int item = order.at(p);
                sum += isLeft(item) ? least(item) : 0;
            }
            return sum;
        }

        int mostOfLeftFrom(int place) {
            int sum = 0;
            for (int p = Math.max(0, place); p < size; p++) {
                int item = order.at(p);
                sum += isLeft(item) ? most(item) : 0;
            }
            return sum;
        }

        void bringBackDone() {
            for (int i = 0; i < size; i++) {
                if (fates.at(i) == DONE) {
                    fates.set(i, LEFT);
                }
            }
        }

        int howManyWithin(Line seconds) {
            int good = 0;
            for (int p = 0; p < size && good < seconds.size; p++) {
                int item = order.at(p);
                if (isLeft(item)) {
                    int v = seconds.at(good);
                    if (v < least(item) || v > most(item)) {
                        return good;
                    }
                    good++;
                }
            }
            return good;
        }

        int firstUnlike(Line numbers) {
            for (int i = 0; i < numbers.size; i++) {
                if (!has(i) || numbers.at(i) != trues.at(i)) {
                    return i;
                }
            }
            return -1;
        }

        void takeFrom(Items other) {
            size = other.size;
            kinds.takeFrom(other.kinds);
            ms.takeFrom(other.ms);
            trues.takeFrom(other.trues);
            fates.takeFrom(other.fates);
            order.takeFrom(other.order);
        }
    }

    /** All that an IMAGE keeps. */
    private static final class Show {
        final Items items = new Items();
        int end = 600;
        int now = 0;
        int tune = 30;
        int z = 1;
        final Line tape = new Line(TAPE_ROOM);
        final Line waiting = new Line(WAITING_ROOM);
        final Text worth = new Text();
        final Text liked = new Text();

        int setClock(int what, int v) {
            int before = what == 0 ? end : what == 1 ? now : tune;
            if (what == 0) {
                end = v;
            } else if (what == 1) {
                now = v;
            } else {
                tune = v;
            }
            return before;
        }

        int there() {
            return end - now;
        }

        boolean fitsLeft() {
            return there() >= items.leastOfLeft() && there() <= items.mostOfLeft();
        }

        int finish(int item, int seconds) {
            items.fates.set(item, DONE);
            now += seconds;
            return now;
        }

        boolean finishesOneByDraw() {
            int on = items.on();
            if (on < 0) {
                return false;
            }
            int least = items.least(on);
            int ways = Math.max(1, items.most(on) - least + 1);
            int seconds = least + draw() % ways;
            if (now + seconds > LATEST) {
                return false;
            }
            finish(on, seconds);
            return true;
        }

        private int draw() {
            z = z * 1103515245 + 12345;
            return z >>> 8;
        }

        int planned(int item) {
            int there = there();
            int takes = 0;
            int place = items.placeOf(item);
            for (int p = 0; p <= place; p++) {
                int one = items.order.at(p);
                if (items.isLeft(one)) {
                    takes = Math.min(items.most(one), there - items.leastOfLeftFrom(p + 1));
                    there -= takes;
                }
            }
            return takes;
        }

        int earliest(int item) {
            int place = items.placeOf(item);
            int leastAhead = items.leastOfLeft() - items.leastOfLeftFrom(place);
            return Math.max(now + leastAhead, end - items.mostOfLeftFrom(place));
        }

        int latest(int item) {
            int place = items.placeOf(item);
            int mostAhead = items.mostOfLeft() - items.mostOfLeftFrom(place);
            return Math.min(now + mostAhead, end - items.leastOfLeftFrom(place));
        }

        Text textOf(int use) {
            return use == 0 ? worth : liked;
        }

        int worthBy(int kind, int trueSeconds, int place) {
            return within(0, 999, worth.stands ? worth.give(kind, trueSeconds, place) : trueSeconds);
        }

        int likingBy(int item, int place, int kind) {
            return within(-99, 99, liked.stands ? liked.give(item, place, kind) : item * place);
        }

        int worthOf(int item) {
            return worthBy(items.kinds.at(item), items.trues.at(item), items.placeOf(item));
        }

        void takeFrom(Show other) {
            items.takeFrom(other.items);
            end = other.end;
            now = other.now;
            tune = other.tune;
            z = other.z;
            tape.takeFrom(other.tape);
            waiting.takeFrom(other.waiting);
            worth.takeFrom(other.worth);
            liked.takeFrom(other.liked);
        }
    }

    /**
     * A TEXT as a program for a stack: numbers stand as they are, the NAMES as -1, -2, -3,
     * every other sign as itself below 0.
     */
    private static final class Text {
        boolean stands = false;
        private final Line code = new Line(TAPE_ROOM);
        private final Line stack = new Line(TAPE_ROOM);

        void learn(Line program) {
            code.takeFrom(program);
            stands = true;
        }

        boolean forget() {
            boolean stood = stands;
            stands = false;
            return stood;
        }

        int give(int a, int b, int c) {
            stack.clear();
            for (int i = 0; i < code.size; i++) {
                int word = code.at(i);
                if (word >= -3) {
                    stack.append(word >= 0 ? word : word == -1 ? a : word == -2 ? b : c);
                } else if (word == -'!') {
                    stack.append(stack.takeLast() == 0 ? 1 : 0);
                } else {
                    int right = stack.takeLast();
                    int left = stack.takeLast();
                    stack.append(joined(-word, left, right));
                }
            }
            return stack.takeLast();
        }

        private static int joined(int sign, int left, int right) {
            switch (sign) {
                case '|': return left != 0 || right != 0 ? 1 : 0;
                case '&': return left != 0 && right != 0 ? 1 : 0;
                case '<': return left < right ? 1 : 0;
                case '=': return left == right ? 1 : 0;
                case '>': return left > right ? 1 : 0;
                case '+': return left + right;
                case '-': return left - right;
                case '*': return left * right;
                case '/': return right == 0 ? 0 : left / right;
                case '%': return right == 0 ? 0 : left % right;
                default: return 0;
            }
        }

        void takeFrom(Text other) {
            stands = other.stands;
            code.takeFrom(other.code);
        }
    }

    /** Reads a TEXT byte by byte, so that the first byte that is refused is the FAULT. */
    private static final class Reader {
        private static final char[] WORTH_NAMES = {'k', 'l', 'p'};
        private static final char[] LIKED_NAMES = {'i', 'p', 'k'};
        private static final int COMPARING = 3;
        private static final int LOOSEST = 1;
        private static final int MOST_OPEN = 5;
        private static final int MOST_DIGITS = 4;

        final Line code = new Line(TAPE_ROOM);
        private final Line pending = new Line(TAPE_ROOM);
        private boolean wantsQ = true;
        private int open = 0;
        private int digits = 0;

        int faultOf(Line tape, int use) {
            code.clear();
            pending.clear();
            wantsQ = true;
            open = 0;
            digits = 0;
            for (int i = 0; i < tape.size; i++) {
                if (!takes(tape.at(i), use)) {
                    return i;
                }
            }
            return isWhole() ? -1 : tape.size;
        }

        private boolean takes(int sign, int use) {
            if (sign >= '0' && sign <= '9') {
                return takesDigit(sign - '0');
            }
            digits = 0;
            return wantsQ ? takesStart(sign, use) : takesNext(sign);
        }

        private boolean takesDigit(int digit) {
            if (digits == MOST_DIGITS || (digits == 0 && !wantsQ)) {
                return false;
            }
            int ahead = digits == 0 ? 0 : code.takeLast();
            code.append(ahead * 10 + digit);
            digits++;
            wantsQ = false;
            return true;
        }

        private boolean takesStart(int sign, int use) {
            if (sign == '!' || sign == '(') {
                if (open == MOST_OPEN) {
                    return false;
                }
                open++;
                pending.append(sign);
                return true;
            }
            int name = nameOf(sign, use);
            if (name < 0) {
                return false;
            }
            code.append(-1 - name);
            wantsQ = false;
            return true;
        }

        private boolean takesNext(int sign) {
            if (sign == ')') {
                return closes();
            }
            int rank = rankOf(sign);
            if (rank == 0 || sign == '!') {
                return false;
            }
            if (rank == COMPARING) {
                settle(COMPARING + 1);
                if (rankOf(pending.last()) == COMPARING) {
                    return false;
                }
            }
            settle(rank);
            pending.append(sign);
            wantsQ = true;
            return true;
        }

        private boolean closes() {
            settle(LOOSEST);
            if (pending.size == 0) {
                return false;
            }
            pending.takeLast();
            open--;
            return true;
        }

        private boolean isWhole() {
            settle(LOOSEST);
            return !wantsQ && pending.size == 0;
        }

        /** Signs that bind as closely as rank, or more so, have all that they join: they come to the program. */
        private void settle(int rank) {
            for (int i = pending.size; i > 0 && rankOf(pending.last()) >= rank; i--) {
                int sign = pending.takeLast();
                code.append(-sign);
                open -= sign == '!' ? 1 : 0;
            }
        }

        private static int rankOf(int sign) {
            switch (sign) {
                case '|': return LOOSEST;
                case '&': return 2;
                case '<': case '=': case '>': return COMPARING;
                case '+': case '-': return 4;
                case '*': case '/': case '%': return 5;
                case '!': return 6;
                default: return 0;
            }
        }

        private static int nameOf(int sign, int use) {
            char[] names = use == 0 ? WORTH_NAMES : LIKED_NAMES;
            for (int i = 0; i < names.length; i++) {
                if (names[i] == sign) {
                    return i;
                }
            }
            return -1;
        }
    }

    /** DROPS and SUMS: sets of ITEMS as bits, each set's sum made from that of a smaller one. */
    private static final class Sets {
        private static final int ALL_SETS = 1 << MOST_ITEMS;

        int found = 0;
        private final Line values = new Line(MOST_ITEMS);
        private final int[] leasts = new int[ALL_SETS];
        private final int[] mosts = new int[ALL_SETS];
        private final int[] worths = new int[ALL_SETS];
        private final int[] trues = new int[ALL_SETS];

        boolean findsDrops(Show show) {
            Items items = show.items;
            int left = items.leftSet();
            for (int i = 0; i < items.size; i++) {
                values.set(i, items.least(i));
            }
            addUp(leasts, left);
            for (int i = 0; i < items.size; i++) {
                values.set(i, items.most(i));
            }
            addUp(mosts, left);
            for (int i = 0; i < items.size; i++) {
                values.set(i, show.worthOf(i));
            }
            addUp(worths, left);
            return findsBest(left, show.there());
        }

        int countSums(Show show, int sum) {
            int left = show.items.leftSet();
            values.takeFrom(show.items.trues);
            addUp(trues, left);
            int howMany = 0;
            for (int set = 0; set <= left && set < trues.length; set++) {
                if ((set & left) == set && trues[set] == sum) {
                    found = howMany == 0 ? set : found;
                    howMany++;
                }
            }
            return howMany;
        }

        /** What stands at a set that is not wholly LEFT is never asked. */
        private void addUp(int[] sums, int left) {
            for (int bit = 1, i = 0; i < MOST_ITEMS; i++, bit += bit) {
                int value = values.at(i);
                for (int set = 0; (left & bit) != 0 && set < bit && bit + set < sums.length; set++) {
                    sums[bit + set] = sums[set] + value;
                }
            }
        }

        private boolean findsBest(int left, int there) {
            int fewest = MOST_ITEMS + 1;
            int leastWorth = 0;
            int leastAll = sumAt(leasts, left);
            int mostAll = sumAt(mosts, left);
            for (int set = 0; set <= left && set < ALL_SETS; set++) {
                if ((set & left) != set || there < leastAll - sumAt(leasts, set) || there > mostAll - sumAt(mosts, set)) {
                    continue;
                }
                int many = Integer.bitCount(set);
                int worth = sumAt(worths, set);
                // The least worth dropped is the most worth kept.
                if (many < fewest || (many == fewest && worth < leastWorth)) {
                    fewest = many;
                    leastWorth = worth;
                    found = set;
                }
            }
            return fewest <= MOST_ITEMS;
        }

        private static int sumAt(int[] sums, int set) {
            return set >= 0 && set < sums.length ? sums[set] : 0;
        }
    }

    /** ROW: the best way to end a row is found once for each set of ITEMS that are still to be placed. */
    private static final class Rows {
        int liked = 0;
        final Line chosen = new Line(MOST_IN_A_ROW);
        private final Line members = new Line(MOST_IN_A_ROW);
        private final Line likings = new Line(MOST_IN_A_ROW * MOST_IN_A_ROW);
        private final Line best = new Line(1 << MOST_IN_A_ROW);

        void think(Show show) {
            askLikings(show);
            int all = (1 << members.size) - 1;
            best.set(0, 0);
            for (int set = 1; set <= all; set++) {
                best.set(set, withNext(set, bestNext(set)));
            }
            liked = best.at(all);
            choose(all);
        }

        private void askLikings(Show show) {
            members.clear();
            for (int i = 0; i < show.items.size; i++) {
                if (show.items.isLeft(i)) {
                    members.append(i);
                }
            }
            for (int i = 0; i < members.size; i++) {
                for (int p = 0; p < members.size; p++) {
                    int item = members.at(i);
                    likings.set(i * MOST_IN_A_ROW + p, show.likingBy(item, p, show.items.kinds.at(item)));
                }
            }
        }

        private int bestNext(int set) {
            int next = -1;
            for (int i = 0; i < members.size; i++) {
                // Only what is better replaces: among equals the first by numbers stays.
                if ((set & 1 << i) != 0 && (next < 0 || withNext(set, i) > withNext(set, next))) {
                    next = i;
                }
            }
            return next;
        }

        private int withNext(int set, int next) {
            int place = members.size - Integer.bitCount(set);
            return likings.at(next * MOST_IN_A_ROW + place) + best.at(set & ~(1 << next));
        }

        private void choose(int all) {
            chosen.clear();
            int set = all;
            for (int p = 0; p < members.size; p++) {
                int next = bestNext(set);
                chosen.append(members.at(next));
                set &= ~(1 << next);
            }
        }
    }

    /** ODDS: in how many ways the LIVE ones are so many seconds over together. */
    private static final class Odds {
        private static final int MOST_OVER = 9 * MOST_ITEMS;

        long above = 0;
        long below = 1;
        private final long[] ways = new long[MOST_OVER + 1];

        void think(Show show) {
            Items items = show.items;
            int there = show.there();
            int least = 0;
            int most = 0;
            below = 1;
            clearWays();
            for (int i = 0; i < items.size; i++) {
                if (items.isLeft(i) && items.isOf(i, LIVE)) {
                    there -= items.trues.at(i);
                    below *= items.ms.at(i) + 1;
                    spread(items.ms.at(i));
                } else if (items.isLeft(i)) {
                    least += items.least(i);
                    most += items.most(i);
                }
            }
            above = waysWithin(there - most, there - least);
            reduce();
        }

        private void clearWays() {
            for (int i = 0; i < ways.length; i++) {
                ways[i] = i == 0 ? 1 : 0;
            }
        }

        private void spread(int m) {
            // From above downwards, since each asks only those below it as they were.
            for (int i = ways.length - 1; i >= 0; i--) {
                for (int more = 1; more <= m && more <= i; more++) {
                    ways[i] += ways[i - more];
                }
            }
        }

        private long waysWithin(int low, int high) {
            long sum = 0;
            for (int i = 0; i < ways.length; i++) {
                sum += i >= low && i <= high ? ways[i] : 0;
            }
            return sum;
        }

        private void reduce() {
            long a = below;
            long b = above;
            for (int i = 0; i < 100 && b != 0; i++) {
                long rest = a % b;
                a = b;
                b = rest;
            }
            if (a > 1) {
                above /= a;
                below /= a;
            }
        }
    }

    /** A row of 8, 16 or 32 bits, all with a sign; of 0 bits while it is missing. */
    private static final class Sheet {
        int bits = 0;
        final Line numbers = new Line(SHEET_ROOM);

        void lay(int newBits, int n) {
            bits = newBits;
            numbers.clear();
            for (int i = 0; i < n; i++) {
                numbers.append(0);
            }
        }

        void write(int i, int v) {
            numbers.set(i, bits == 8 ? (byte) v : bits == 16 ? (short) v : v);
        }
    }

    /** The VOICES of one ITEM, and THE TRACE of the BODIES that began. */
    private static final class Voices {
        private static final int READS = 0;
        private static final int ADLIBS = 1;
        private static final int WINDS = 2;
        static final int PARTS = 3;
        private static final int DEEPEST = 30;
        // For each KIND its own BODIES of the four VOICES; 0 where it has that of the KIND above.
        private static final int[] BODIES = {
            10, 11, 12, 13,
            20, 0, 0, 21,
            0, 30, 0, 0,
            0, 0, 40, 0,
            50, 0, 51, 0,
            0, 60, 0, 0,
            70, 71, 0, 0,
        };

        final Line trace = new Line(TRACE_ROOM);
        boolean parted = false;
        private int kind = 0;
        private int k = 0;
        private int m = 0;

        int hear(Items items, int item, int voice, int x) {
            trace.clear();
            parted = false;
            kind = items.kinds.at(item);
            k = item;
            m = items.ms.at(item);
            return speak(voice, kind, x, 0);
        }

        private int speak(int voice, int from, int x, int depth) {
            if (parted || depth > DEEPEST) {
                return 0;
            }
            int body = bodyOf(voice, from);
            trace.append(body);
            return answerOf(body, x, depth + 1);
        }

        private int answerOf(int body, int x, int depth) {
            switch (body) {
                case 10: return x + k;
                case 11: return speak(READS, kind, x, depth) * 2;
                case 12: return speak(ADLIBS, kind, x, depth) - m;
                case 13: return cutUp(x);
                case 20: return speak(READS, Items.above(SPORT), x, depth) - 4;
                case 21: return speak(PARTS, Items.above(SPORT), x, depth) + speak(ADLIBS, kind, 1, depth);
                case 30: return 0 - speak(ADLIBS, Items.above(WEATHER), x, depth);
                case 40: return speak(WINDS, Items.above(LIVE), x / 2, depth);
                case 50: return speak(READS, Items.above(DUCK), x, depth) * 3;
                case 51: return speak(WINDS, Items.above(DUCK), x, depth) ^ k;
                case 60: return speak(ADLIBS, Items.above(BREEZE), x + 1, depth);
                case 70: return 9;
                case 71: return speak(ADLIBS, Items.above(LISBON), x, depth) + m;
                default: return 0;
            }
        }

        private int cutUp(int x) {
            parted = m == k;
            return parted ? 0 : x / (m - k);
        }

        private static int bodyOf(int voice, int from) {
            int found = 0;
            int kind = from;
            for (int i = 0; i <= LAST_KIND && kind >= 0 && found == 0; i++) {
                int at = 4 * kind + voice;
                found = at >= 0 && at < BODIES.length ? BODIES[at] : 0;
                kind = Items.above(kind);
            }
            return found;
        }
    }
}
