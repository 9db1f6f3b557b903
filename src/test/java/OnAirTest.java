/** Promises 13 to 18: what goes on the air. */
public final class OnAirTest {
    public static void main(String[] args) {
        air();
        breaks();
        drop();
        loose();
        anew();
        seed();
        Checks.end();
    }

    private static void air() {
        OffOnTheSecond x = Checks.with(14, 120, 20, 5, 33, 80);
        Checks.due("13: below LEAST", x.air(39), Checks.BEYOND);
        Checks.due("13: above MOST", x.air(121), Checks.BEYOND);
        Checks.due("13: far below", x.air(Integer.MIN_VALUE), Checks.BEYOND);
        Checks.due("13: far above", x.air(Integer.MAX_VALUE), Checks.BEYOND);
        Checks.due("13: at LEAST", x.air(40), 40);
        Checks.due("13: done", x.itemIs(0, 6), 2);
        x.shift(2, 0);
        Checks.due("13: the first in the order that is left", x.count(5), 2);
        Checks.due("13: at MOST", x.air(92), 132);
        x.clock(1, 9970);
        Checks.due("13: BEYOND ahead of STATE", x.air(29), Checks.BEYOND);
        Checks.due("13: above 9999", x.air(30), Checks.STATE);
        x.clock(1, 9969);
        Checks.due("13: to 9999", x.air(30), 9999);
        Checks.due("13: none is left", x.air(-1), Checks.STATE);
        Checks.due("13: a new one", new OffOnTheSecond().air(0), Checks.STATE);
    }

    private static void breaks() {
        OffOnTheSecond x = new OffOnTheSecond();
        Checks.due("14: none", x.breaks(0), Checks.BEYOND);
        Checks.due("14: too long", x.breaks(301), Checks.BEYOND);
        Checks.due("14: far too long", x.breaks(Integer.MAX_VALUE), Checks.BEYOND);
        Checks.due("14: one", x.breaks(1), 1);
        Checks.due("14: 300", x.breaks(300), 301);
        x.clock(1, 9998);
        Checks.due("14: above 9999", x.breaks(2), Checks.STATE);
        Checks.due("14: BEYOND ahead of STATE", x.breaks(301), Checks.BEYOND);
        Checks.due("14: to 9999", x.breaks(1), 9999);
    }

    private static void drop() {
        OffOnTheSecond x = Checks.with(0, 1, 0, 2, 0, 3);
        Checks.due("15: two are left", x.drop(1), 2);
        Checks.due("15: dropped", x.drop(1), Checks.STATE);
        Checks.due("15: no such item", x.drop(3), Checks.BEYOND);
        Checks.due("15: item below 0", x.drop(-1), Checks.BEYOND);
        x.air(1);
        Checks.due("15: done", x.drop(0), Checks.STATE);
        Checks.due("15: none is left", x.drop(2), 0);
        Checks.due("15: what is on", x.count(5), -1);
    }

    private static void loose() {
        OffOnTheSecond x = Checks.with(14, 120, 20, 5, 0, 7);
        Checks.due("16: n 0", x.loose(0), Checks.BEYOND);
        Checks.due("16: n 10", x.loose(10), Checks.BEYOND);
        int z = 1;
        z = z * 1103515245 + 12345;
        int now = 40 + (z >>> 8) % 81;
        Checks.due("16: one", x.loose(1), 1);
        Checks.due("16: LEAST and the rest", x.count(1), now);
        Checks.due("16: z", x.count(11), z);
        z = z * 1103515245 + 12345;
        now += 30 + (z >>> 8) % 61;
        z = z * 1103515245 + 12345;
        now += 7;
        Checks.due("16: no more than are left", x.loose(9), 2);
        Checks.due("16: now", x.count(1), now);
        Checks.due("16: none is left, nothing drawn", x.loose(1), 0);
        Checks.due("16: z, a draw for each", x.count(11), z);
        latest();
        OffOnTheSecond y = Checks.with(0, 1, 0, 1, 0, 1, 0, 1, 0, 1, 0, 1, 0, 1, 0, 1, 0, 1);
        Checks.due("16: nine", y.loose(9), 9);
    }

    private static void latest() {
        OffOnTheSecond x = Checks.with(0, 20, 0, 21);
        x.clock(1, 9959);
        int z = (1 * 1103515245 + 12345) * 1103515245 + 12345;
        Checks.due("16: the second would end late", x.loose(9), 1);
        Checks.due("16: its draw is lost", x.count(11), z);
        Checks.due("16: it is still on", x.count(5), 1);
        Checks.due("16: now stays", x.count(1), 9979);
        x.truth(1, 20);
        Checks.due("16: to 9999", x.loose(1), 1);
        Checks.due("16: 9999", x.count(1), 9999);
    }

    private static void anew() {
        OffOnTheSecond x = Checks.with(0, 1, 0, 2, 0, 3);
        x.drop(1);
        x.shift(2, 0);
        x.air(3);
        x.breaks(50);
        Checks.due("17: how many are left", x.anew(), 2);
        Checks.due("17: now", x.count(1), 0);
        Checks.due("17: what was done is left", x.itemIs(2, 6), 0);
        Checks.due("17: what is dropped stays so", x.itemIs(1, 6), 1);
        Checks.due("17: the order stays", x.count(5), 2);
        Checks.due("17: end stays", x.count(2), 600);
    }

    private static void seed() {
        OffOnTheSecond x = Checks.with(0, 1);
        Checks.due("18: at first", x.seed(77), 1);
        Checks.due("18: what it was", x.seed(Checks.BEYOND), 77);
        Checks.due("18: any number is no ERROR", x.seed(77), Checks.BEYOND);
        Checks.due("18: not told", x.told(1), 0);
        x.loose(1);
        Checks.due("18: drawn from it", x.seed(0), 77 * 1103515245 + 12345);
    }
}
