/** Promises 29 and 30: voices and their trace. */
public final class VoicesTest {
    private static final int X = 7;

    public static void main(String[] args) {
        // k is 2, m is 5 for each.
        voice(0, 0, 9, 10);
        voice(0, 1, 18, 11, 10);
        voice(0, 2, 13, 12, 11, 10);
        voice(0, 3, 2, 13);
        voice(1, 0, 5, 20, 10);
        voice(1, 1, 10, 11, 20, 10);
        voice(1, 2, 5, 12, 11, 20, 10);
        voice(1, 3, 2 - 2, 21, 13, 11, 20, 10);
        voice(2, 0, 9, 10);
        voice(2, 1, -18, 30, 11, 10);
        voice(2, 2, -23, 12, 30, 11, 10);
        voice(2, 3, 2, 13);
        voice(3, 0, 9, 10);
        voice(3, 1, 18, 11, 10);
        voice(3, 2, 5, 40, 12, 11, 10);
        voice(3, 3, 2, 13);
        voice(4, 0, 15, 50, 20, 10);
        voice(4, 1, 30, 11, 50, 20, 10);
        voice(4, 2, 25 ^ 2, 51, 12, 11, 50, 20, 10);
        voice(4, 3, 2 - 6, 21, 13, 11, 50, 20, 10);
        voice(5, 0, 9, 10);
        voice(5, 1, -20, 60, 30, 11, 10);
        voice(5, 2, -25, 12, 60, 30, 11, 10);
        voice(5, 3, 2, 13);
        voice(6, 0, 9, 70);
        voice(6, 1, 23, 71, 11, 70);
        voice(6, 2, 18, 40, 12, 71, 11, 70);
        voice(6, 3, 2, 13);
        cut();
        parted();
        errors();
        Checks.end();
    }

    private static void voice(int kind, int voice, int want, int... trace) {
        OffOnTheSecond x = Checks.with(0, 0, 0, 0, 10 * kind + 5, 0);
        Checks.due("29: kind " + kind + " voice " + voice, x.voice(2, voice, X), want);
        Checks.due("30: how many", x.count(10), trace.length);
        for (int i = 0; i < trace.length; i++) {
            Checks.due("30: kind " + kind + " voice " + voice + " at " + i, x.body(i), trace[i]);
        }
        Checks.due("30: behind the last", x.body(trace.length), Checks.NONE);
        Checks.due("30: below 0", x.body(-1), Checks.NONE);
    }

    private static void cut() {
        OffOnTheSecond x = Checks.with(0, 0, 3, 0, 30, 0, 6, 0);
        Checks.due("29: cut toward 0", x.voice(3, 3, -7), -2);
        Checks.due("29: by less than 0", x.voice(0, 3, 7), Checks.PARTED);
        x.become(0, 1);
        Checks.due("29: by 1", x.voice(0, 3, Integer.MIN_VALUE), Integer.MIN_VALUE);
        x.become(1, 0);
        Checks.due("29: by -1", x.voice(1, 3, 8), -8);
        Checks.due("29: by -1, it wraps", x.voice(1, 3, Integer.MIN_VALUE), Integer.MIN_VALUE);
        Checks.due("29: x/2 cut toward 0", x.voice(2, 2, -7), -2);
        Checks.due("29: adlibs wraps", x.voice(0, 1, Integer.MAX_VALUE), -2);
        Checks.due("29: any number is no ERROR", x.voice(0, 0, Checks.PARTED), Checks.PARTED);
        Checks.due("29: told once", x.told(6), 1);
    }

    private static void parted() {
        OffOnTheSecond x = Checks.with(10, 5, 41, 5, 31, 5);
        Checks.due("29: sport", x.voice(0, 3, 9), Checks.PARTED);
        Checks.due("30: as far as it came", x.count(10), 2);
        Checks.due("30: 21", x.body(0), 21);
        Checks.due("30: 13", x.body(1), 13);
        Checks.due("29: duck", x.voice(1, 3, 9), Checks.PARTED);
        Checks.due("29: another still speaks", x.voice(2, 3, 9), -9);
        Checks.due("29: told twice", x.told(6), 2);
    }

    private static void errors() {
        OffOnTheSecond x = Checks.with(11, 5);
        x.voice(0, 0, 1);
        Checks.due("29: no such item", x.voice(1, 0, 1), Checks.BEYOND);
        Checks.due("29: item below 0", x.voice(-1, 0, 1), Checks.BEYOND);
        Checks.due("29: no such voice", x.voice(0, 4, 1), Checks.BEYOND);
        Checks.due("29: voice below 0", x.voice(0, -1, 1), Checks.BEYOND);
        Checks.due("30: the trace stays", x.count(10), 2);
        x.drop(0);
        Checks.due("29: dropped ones speak", x.voice(0, 0, 1), -3);
        Checks.due("30: far behind", x.body(Integer.MAX_VALUE), Checks.NONE);
    }
}
