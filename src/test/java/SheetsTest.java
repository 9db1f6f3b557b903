/** Promises 31 to 35: sheets. */
public final class SheetsTest {
    public static void main(String[] args) {
        sheet();
        put();
        move();
        moveErrors();
        truths();
        judge();
        Checks.end();
    }

    private static void sheet() {
        OffOnTheSecond x = new OffOnTheSecond();
        for (int bits : new int[] {8, 16, 32}) {
            Checks.due("31: of 24", x.sheet(3, bits, 24), 1);
            Checks.due("31: of none", x.sheet(3, bits, 0), 1);
            Checks.due("31: of 25", x.sheet(3, bits, 25), Checks.BEYOND);
            Checks.due("31: below 0", x.sheet(3, bits, -1), Checks.STATE);
            Checks.due("31: it stays", x.judge(3), 0);
        }
        for (int bits : new int[] {-8, 1, 7, 9, 24, 64}) {
            Checks.due("31: bits " + bits, x.sheet(3, bits, 1), Checks.BEYOND);
        }
        Checks.due("31: no such sheet", x.sheet(4, 8, 1), Checks.BEYOND);
        Checks.due("31: sheet below 0", x.sheet(-1, 8, 1), Checks.BEYOND);
        Checks.due("31: BEYOND of the bits ahead of STATE", x.sheet(0, 7, -1), Checks.BEYOND);
        Checks.due("31: BEYOND of the sheet ahead of STATE", x.sheet(4, 8, -1), Checks.BEYOND);
        x.sheet(0, 8, 1);
        Checks.due("31: missing, n doesn't matter", x.sheet(0, 0, -5), 1);
        Checks.due("31: missing", x.put(0, 0, 1), Checks.NONE);
        Checks.due("31: missing, n doesn't matter", x.sheet(0, 0, 99), 1);
        x.sheet(0, 32, 1);
        x.put(0, 0, 5);
        x.sheet(0, 32, 1);
        Checks.due("31: all 0", x.sums(0, 0), 1);
    }

    private static void put() {
        OffOnTheSecond x = Checks.with(0, 1, 0, 2);
        Checks.due("32: no such sheet", x.put(4, 0, 1), Checks.BEYOND);
        Checks.due("32: sheet below 0", x.put(-1, 0, 1), Checks.BEYOND);
        Checks.due("32: NONE ahead of BEYOND of the number", x.put(0, 9, 1), Checks.NONE);
        x.sheet(0, 8, 2);
        x.sheet(1, 16, 2);
        x.sheet(2, 32, 2);
        for (int sheet = 0; sheet < 3; sheet++) {
            Checks.due("32: no such number", x.put(sheet, 2, 1), Checks.BEYOND);
            Checks.due("32: number below 0", x.put(sheet, -1, 1), Checks.BEYOND);
            Checks.due("32: put", x.put(sheet, 1, 65536 + 256 + 7), 1);
        }
        lowestBits(x, 0, 7);
        lowestBits(x, 1, 263);
        Checks.due("32: 32 bits hold it all", x.truths(2), 1);
        x.put(2, 0, -1);
        Checks.due("32: below 0", x.truths(2), 0);
        x.put(0, 0, 255);
        Checks.due("32: 8 bits, with a sign", x.truths(0), 0);
        x.put(0, 0, 127);
        Checks.due("32: the most of 8 bits", x.truths(0), 2);
        x.put(1, 0, 65535);
        Checks.due("32: 16 bits", x.truths(1), 0);
    }

    private static void lowestBits(OffOnTheSecond x, int sheet, int want) {
        Checks.due("32: truths", x.truths(sheet), 2);
        Checks.due("32: its lowest bits", x.itemIs(1, 2), want);
    }

    private static void move() {
        OffOnTheSecond x = Checks.with(0, 0, 0, 0, 0, 0, 0, 0, 0, 0);
        x.sheet(0, 16, 5);
        fill(x, 0, 5);
        Checks.due("33: onto itself, upwards", x.move(0, 0, 0, 1, 4), 4);
        holds(x, 0, 1, 1, 2, 3, 4);
        fill(x, 0, 5);
        Checks.due("33: onto itself, downwards", x.move(0, 2, 0, 0, 3), 3);
        holds(x, 0, 3, 4, 5, 4, 5);
        x.sheet(1, 16, 3);
        Checks.due("33: to another", x.move(0, 1, 1, 1, 2), 2);
        holds(x, 1, 0, 4, 5);
        holds(x, 0, 3, 4, 5, 4, 5);
        Checks.due("33: none at the end", x.move(0, 5, 1, 3, 0), 0);
    }

    private static void fill(OffOnTheSecond x, int sheet, int n) {
        for (int i = 0; i < n; i++) {
            x.put(sheet, i, i + 1);
        }
    }

    private static void holds(OffOnTheSecond x, int sheet, int... numbers) {
        Checks.due("33: truths", x.truths(sheet), numbers.length);
        for (int i = 0; i < numbers.length; i++) {
            Checks.due("33: number " + i, x.itemIs(i, 2), numbers[i]);
        }
    }

    private static void moveErrors() {
        OffOnTheSecond x = new OffOnTheSecond();
        x.sheet(0, 8, 3);
        x.sheet(1, 8, 4);
        x.sheet(2, 32, 4);
        Checks.due("33: no such sheet", x.move(4, 0, 3, 0, 1), Checks.BEYOND);
        Checks.due("33: no such other one", x.move(3, 0, -1, 0, 1), Checks.BEYOND);
        Checks.due("33: missing", x.move(3, -1, 0, 0, 1), Checks.NONE);
        Checks.due("33: the other is missing", x.move(0, -1, 3, 0, 1), Checks.NONE);
        Checks.due("33: both are missing", x.move(3, 0, 3, 0, 0), Checks.NONE);
        Checks.due("33: unlike, ahead of BEYOND", x.move(0, -1, 2, 0, 9), Checks.KIND);
        Checks.due("33: n below 0", x.move(0, 0, 1, 0, -1), Checks.BEYOND);
        Checks.due("33: i below 0", x.move(0, -1, 1, 0, 1), Checks.BEYOND);
        Checks.due("33: j below 0", x.move(0, 0, 1, -1, 1), Checks.BEYOND);
        Checks.due("33: not there", x.move(0, 1, 1, 0, 3), Checks.BEYOND);
        Checks.due("33: no room", x.move(0, 0, 1, 2, 3), Checks.BEYOND);
        Checks.due("33: far off", x.move(0, Integer.MAX_VALUE, 1, 0, 2), Checks.BEYOND);
        Checks.due("33: far off", x.move(0, 1, 1, 1, Integer.MAX_VALUE), Checks.BEYOND);
        Checks.due("33: just there", x.move(0, 0, 1, 1, 3), 3);
    }

    private static void truths() {
        OffOnTheSecond x = Checks.with(0, 10, 0, 20, 0, 30);
        x.sheet(0, 32, 4);
        int[] numbers = {999, 0, 5, 6};
        for (int i = 0; i < numbers.length; i++) {
            x.put(0, i, numbers[i]);
        }
        Checks.due("34: as many as there are items", x.truths(0), 3);
        Checks.due("34: the first", x.itemIs(0, 2), 999);
        Checks.due("34: the last", x.itemIs(2, 2), 5);
        x.put(0, 0, 1);
        x.put(0, 1, 1000);
        x.put(0, 2, 7);
        Checks.due("34: up to 1000", x.truths(0), 1);
        Checks.due("34: the first", x.itemIs(0, 2), 1);
        Checks.due("34: the second stays", x.itemIs(1, 2), 0);
        Checks.due("34: the third stays", x.itemIs(2, 2), 5);
        x.put(0, 0, -1);
        Checks.due("34: up to -1, no ERROR", x.truths(0), 0);
        x.shift(2, 0);
        x.drop(0);
        x.put(0, 0, 8);
        Checks.due("34: by numbers, also dropped", x.truths(0), 1);
        Checks.due("34: the first", x.itemIs(0, 2), 8);
        x.sheet(1, 8, 2);
        Checks.due("34: fewer than items", x.truths(1), 2);
        Checks.due("34: no such sheet", x.truths(4), Checks.BEYOND);
        Checks.due("34: sheet below 0", x.truths(-1), Checks.BEYOND);
        Checks.due("34: missing", x.truths(2), Checks.NONE);
        Checks.due("34: told", x.told(1), 2);
    }

    private static void judge() {
        OffOnTheSecond x = Checks.with(14, 120, 0, 50, 20, 0, 0, 60);
        x.sheet(0, 32, 5);
        x.shift(2, 0);
        x.drop(1);
        int[] numbers = {90, 40, 60, 9, 9};
        for (int i = 0; i < numbers.length; i++) {
            x.put(0, i, numbers[i]);
        }
        Checks.due("35: those left, in the order", x.judge(0), 3);
        x.put(0, 1, 121);
        Checks.due("35: from the first on", x.judge(0), 1);
        x.put(0, 1, 39);
        Checks.due("35: below LEAST", x.judge(0), 1);
        x.put(0, 1, 120);
        Checks.due("35: at MOST", x.judge(0), 3);
        x.put(0, 0, 91);
        Checks.due("35: not the first", x.judge(0), 0);
        x.sheet(1, 8, 2);
        x.put(1, 0, 30);
        Checks.due("35: fewer numbers", x.judge(1), 1);
        x.put(1, 1, 50);
        Checks.due("35: all of them", x.judge(1), 2);
        Checks.due("35: no such sheet", x.judge(4), Checks.BEYOND);
        Checks.due("35: sheet below 0", x.judge(-1), Checks.BEYOND);
        Checks.due("35: missing", x.judge(2), Checks.NONE);
    }
}
