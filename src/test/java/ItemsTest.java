/** Promises 1 to 8: a new object, the items, the order, the clocks. */
public final class ItemsTest {
    public static void main(String[] args) {
        newObject();
        item();
        itemIs();
        become();
        as();
        truth();
        shift();
        clock();
        Checks.end();
    }

    private static void newObject() {
        OffOnTheSecond x = new OffOnTheSecond();
        int[] due = {0, 0, 600, 30, 0, -1, 0, 0, 0, 0, 0, 1};
        for (int what = 0; what < due.length; what++) {
            Checks.due("1: count(" + what + ")", x.count(what), due[what]);
        }
        Checks.due("1: no text 0", x.untell(0), 0);
        Checks.due("1: no text 1", x.untell(1), 0);
        Checks.due("1: no trace", x.body(0), Checks.NONE);
        Checks.due("1: no image", x.restore(), Checks.NONE);
        for (int sheet = 0; sheet < 4; sheet++) {
            Checks.due("1: sheet missing", x.truths(sheet), Checks.NONE);
        }
        Checks.due("1: told(1)", x.told(1), 0);
        Checks.due("1: told(2)", x.told(2), 6);
        for (int k = 3; k <= 6; k++) {
            Checks.due("1: told", x.told(k), 0);
        }
    }

    private static void item() {
        OffOnTheSecond x = new OffOnTheSecond();
        Checks.due("2: km too low", x.item(-1, 0), Checks.BEYOND);
        Checks.due("2: km too high", x.item(70, 0), Checks.BEYOND);
        Checks.due("2: truth too low", x.item(0, -1), Checks.BEYOND);
        Checks.due("2: truth too high", x.item(0, 1000), Checks.BEYOND);
        Checks.due("2: nothing came", x.count(0), 0);
        for (int i = 0; i < 9; i++) {
            Checks.due("2: item " + i, x.item(i % 2 == 0 ? 0 : 69, i % 2 == 0 ? 0 : 999), i);
            Checks.due("2: at the end", x.itemIs(i, 5), i);
        }
        Checks.due("2: BEYOND ahead of FULL", x.item(70, 0), Checks.BEYOND);
        Checks.due("2: full", x.item(0, 0), Checks.FULL);
        Checks.due("2: nine", x.count(0), 9);
        OffOnTheSecond y = Checks.with(0, 5, 0, 6);
        y.shift(0, 1);
        Checks.due("2: at the end of a shifted order", y.item(23, 7), 2);
        Checks.due("2: its place", y.itemIs(2, 5), 2);
        Checks.due("2: its kind", y.itemIs(2, 0), 2);
        Checks.due("2: its m", y.itemIs(2, 1), 3);
        Checks.due("2: it is left", y.itemIs(2, 6), 0);
    }

    private static void itemIs() {
        bounds(0, 7, 100, 100, 100);
        bounds(10, 4, 100, 40, 100);
        bounds(10, 4, 30, 30, 30);
        bounds(10, 0, 30, 0, 30);
        bounds(20, 9, 500, 30, 90);
        bounds(30, 3, 80, 83, 92);
        bounds(30, 0, 80, 80, 80);
        bounds(40, 2, 40, 0, 40);
        bounds(50, 7, 33, 23, 160);
        bounds(50, 0, 33, 30, 90);
        bounds(60, 4, 60, 104, 116);
        bounds(60, 9, 999, 1048, 1075);
        OffOnTheSecond x = Checks.with(15, 77, 0, 5, 0, 6);
        Checks.due("3: kind", x.itemIs(0, 0), 1);
        Checks.due("3: m", x.itemIs(0, 1), 5);
        Checks.due("3: true", x.itemIs(0, 2), 77);
        x.drop(2);
        Checks.due("3: dropped", x.itemIs(2, 6), 1);
        Checks.due("3: still in the order", x.itemIs(2, 5), 2);
        x.air(60);
        Checks.due("3: done", x.itemIs(0, 6), 2);
        Checks.due("3: left", x.itemIs(1, 6), 0);
        Checks.due("3: no such item", x.itemIs(3, 0), Checks.BEYOND);
        Checks.due("3: item below 0", x.itemIs(-1, 0), Checks.BEYOND);
        Checks.due("3: what below 0", x.itemIs(0, -1), Checks.BEYOND);
        Checks.due("3: what above 6", x.itemIs(0, 7), Checks.BEYOND);
    }

    private static void bounds(int kind, int m, int truth, int least, int most) {
        OffOnTheSecond x = Checks.with(kind + m, truth);
        Checks.due("3: LEAST of " + (kind + m), x.itemIs(0, 3), least);
        Checks.due("3: MOST of " + (kind + m), x.itemIs(0, 4), most);
    }

    private static void become() {
        OffOnTheSecond x = Checks.with(35, 50);
        Checks.due("4: km below 0", x.become(0, -1), Checks.BEYOND);
        Checks.due("4: km above 69", x.become(0, 70), Checks.BEYOND);
        Checks.due("4: no such item", x.become(1, 0), Checks.BEYOND);
        Checks.due("4: item below 0", x.become(-1, 0), Checks.BEYOND);
        Checks.due("4: still as it was", x.itemIs(0, 0) * 10 + x.itemIs(0, 1), 35);
        Checks.due("4: the kind that it was", x.become(0, 69), 3);
        Checks.due("4: kind now", x.itemIs(0, 0), 6);
        Checks.due("4: m now", x.itemIs(0, 1), 9);
        Checks.due("4: true as before", x.itemIs(0, 2), 50);
        x.drop(0);
        Checks.due("4: a dropped one", x.become(0, 10), 6);
        Checks.due("4: stays dropped", x.itemIs(0, 6), 1);
    }

    private static void as() {
        int[][] under = {{0}, {0, 1}, {0, 2}, {0, 3}, {0, 1, 4}, {0, 2, 5}, {0, 3, 6}};
        for (int kind = 0; kind < under.length; kind++) {
            OffOnTheSecond x = Checks.with(10 * kind + 8 - kind, 1);
            for (int asked = 0; asked < 7; asked++) {
                boolean is = false;
                for (int one : under[kind]) {
                    is |= one == asked;
                }
                Checks.due("5: " + kind + " as " + asked, x.as(0, asked), is ? 8 - kind : Checks.KIND);
            }
            Checks.due("5: no such kind", x.as(0, 7), Checks.BEYOND);
            Checks.due("5: kind below 0", x.as(0, -1), Checks.BEYOND);
            Checks.due("5: no such item", x.as(1, 0), Checks.BEYOND);
            Checks.due("5: item below 0", x.as(-1, 0), Checks.BEYOND);
        }
    }

    private static void truth() {
        OffOnTheSecond x = Checks.with(0, 50);
        Checks.due("6: what it was", x.truth(0, 999), 50);
        Checks.due("6: and then", x.truth(0, 0), 999);
        Checks.due("6: below 0", x.truth(0, -1), Checks.BEYOND);
        Checks.due("6: above 999", x.truth(0, 1000), Checks.BEYOND);
        Checks.due("6: no such item", x.truth(1, 0), Checks.BEYOND);
        Checks.due("6: item below 0", x.truth(-1, 0), Checks.BEYOND);
        Checks.due("6: it stays", x.itemIs(0, 2), 0);
    }

    private static void shift() {
        OffOnTheSecond x = Checks.with(0, 1, 0, 2, 0, 3, 0, 4, 0, 5);
        Checks.due("7: backwards", x.shift(3, 1), 3);
        order(x, 0, 2, 3, 1, 4);
        Checks.due("7: forwards", x.shift(0, 4), 0);
        order(x, 4, 1, 2, 0, 3);
        Checks.due("7: to its own place", x.shift(2, 2), 2);
        order(x, 4, 1, 2, 0, 3);
        Checks.due("7: place below 0", x.shift(2, -1), Checks.BEYOND);
        Checks.due("7: a place for which there is no item", x.shift(2, 5), Checks.BEYOND);
        Checks.due("7: no such item", x.shift(5, 0), Checks.BEYOND);
        Checks.due("7: item below 0", x.shift(-1, 0), Checks.BEYOND);
        x.drop(1);
        Checks.due("7: BEYOND ahead of STATE", x.shift(1, 5), Checks.BEYOND);
        Checks.due("7: dropped", x.shift(1, 0), Checks.STATE);
        Checks.due("7: past a dropped one", x.shift(3, 4), 0);
        order(x, 3, 0, 1, 4, 2);
        x.air(2 + 1);
        Checks.due("7: done", x.shift(2, 0), Checks.STATE);
    }

    private static void order(OffOnTheSecond x, int... places) {
        for (int i = 0; i < places.length; i++) {
            Checks.due("7: place of " + i, x.itemIs(i, 5), places[i]);
        }
    }

    private static void clock() {
        OffOnTheSecond x = new OffOnTheSecond();
        int[] first = {600, 0, 30};
        int[] highest = {9999, 9999, 99};
        int[] counted = {2, 1, 3};
        for (int what = 0; what < 3; what++) {
            Checks.due("8: what it was", x.clock(what, highest[what]), first[what]);
            Checks.due("8: too high", x.clock(what, highest[what] + 1), Checks.BEYOND);
            Checks.due("8: below 0", x.clock(what, -1), Checks.BEYOND);
            Checks.due("8: as it stands", x.count(counted[what]), highest[what]);
            Checks.due("8: to 0", x.clock(what, 0), highest[what]);
            Checks.due("8: at 0", x.count(counted[what]), 0);
        }
        Checks.due("8: no such clock", x.clock(3, 0), Checks.BEYOND);
        Checks.due("8: clock below 0", x.clock(-1, 0), Checks.BEYOND);
    }
}
