/** Promises 19 to 28: what would be. */
public final class WouldBeTest {
    public static void main(String[] args) {
        over();
        fits();
        spareAndTuned();
        plan();
        begins();
        drops();
        row();
        odds();
        sums();
        onlyThought();
        Checks.end();
    }

    private static void over() {
        OffOnTheSecond x = Checks.with(14, 400, 20, 250, 33, 80);
        Checks.due("19: over", x.over(), 130);
        x.drop(2);
        x.air(140);
        Checks.due("19: of those left", x.over(), 140 + 250 - 600);
    }

    private static void fits() {
        OffOnTheSecond x = Checks.with(20, 0, 14, 100);
        int[] ends = {69, 70, 190, 191};
        int[] due = {0, 1, 1, 0};
        for (int i = 0; i < ends.length; i++) {
            x.clock(0, ends[i]);
            Checks.due("20: END " + ends[i], x.fits(), due[i]);
        }
        x.clock(0, 100);
        x.clock(1, 30);
        Checks.due("20: less NOW", x.fits(), 1);
        x.drop(0);
        Checks.due("20: those left", x.fits(), 1);
        x.drop(1);
        Checks.due("20: none left, and time is", x.fits(), 0);
        x.clock(1, 100);
        Checks.due("20: none left, no time", x.fits(), 1);
        x.clock(1, 101);
        Checks.due("20: it is over", x.fits(), 0);
    }

    private static void spareAndTuned() {
        OffOnTheSecond x = Checks.with(20, 0, 14, 100);
        Checks.due("21: spare", x.spare(), 530);
        x.clock(0, 70);
        Checks.due("21: none", x.spare(), 0);
        x.clock(0, 69);
        Checks.due("21: they haven't now", x.spare(), Checks.NONE);
        OffOnTheSecond y = new OffOnTheSecond();
        Checks.due("22: tuned", y.tuned(), 570);
        y.clock(1, 570);
        Checks.due("22: now", y.tuned(), 0);
        y.clock(2, 31);
        Checks.due("22: too late", y.tuned(), Checks.STATE);
        Checks.due("22: tune of 29", y.clock(2, 29), 31);
        Checks.due("22: in one", y.tuned(), 1);
    }

    private static void plan() {
        OffOnTheSecond x = Checks.with(14, 120, 20, 0, 42, 50, 30, 60);
        x.clock(0, 300);
        int[] due = {120, 90, 30, 60};
        for (int i = 0; i < due.length; i++) {
            Checks.due("23: of " + i, x.plan(i), due[i]);
        }
        x.shift(2, 0);
        x.clock(0, 180);
        int[] shifted = {40, 30, 50, 60};
        for (int i = 0; i < shifted.length; i++) {
            Checks.due("23: in the order, " + i, x.plan(i), shifted[i]);
        }
        Checks.due("23: no such item", x.plan(4), Checks.BEYOND);
        Checks.due("23: item below 0", x.plan(-1), Checks.BEYOND);
        x.drop(1);
        x.clock(0, 100);
        Checks.due("23: just LEAST", x.plan(2), 0);
        x.clock(0, 99);
        Checks.due("23: STATE ahead of NONE", x.plan(1), Checks.STATE);
        Checks.due("23: too little", x.plan(0), Checks.NONE);
        x.clock(0, 231);
        Checks.due("23: too much", x.plan(0), Checks.NONE);
        x.clock(0, 230);
        Checks.due("23: just MOST", x.plan(0), 120);
        x.air(25);
        Checks.due("23: done", x.plan(2), Checks.STATE);
    }

    private static void begins() {
        OffOnTheSecond x = Checks.with(14, 120, 20, 0, 42, 50);
        x.clock(1, 1000);
        x.clock(0, 1150);
        int[] earliest = {1000, 1040, 1100};
        int[] latest = {1000, 1120, 1150};
        for (int i = 0; i < 3; i++) {
            Checks.due("24: earliest of " + i, x.begins(i, 0), earliest[i]);
            Checks.due("24: latest of " + i, x.begins(i, 1), latest[i]);
        }
        x.clock(0, 1250);
        Checks.due("24: no earlier, the rest would be too short", x.begins(1, 0), 1250 - 140);
        Checks.due("24: latest", x.begins(2, 1), 1210);
        x.clock(0, 1045);
        x.become(1, 0);
        x.truth(1, 3);
        Checks.due("24: no later, the rest needs its LEAST", x.begins(1, 1), 1042);
        x.become(1, 20);
        x.clock(0, 1250);
        Checks.due("24: no such item", x.begins(3, 0), Checks.BEYOND);
        Checks.due("24: item below 0", x.begins(-1, 0), Checks.BEYOND);
        Checks.due("24: what below 0", x.begins(0, -1), Checks.BEYOND);
        Checks.due("24: what above 1", x.begins(0, 2), Checks.BEYOND);
        x.drop(1);
        Checks.due("24: STATE ahead of NONE", x.begins(1, 0), Checks.STATE);
        Checks.due("24: it doesn't fit", x.begins(0, 0), Checks.NONE);
    }

    private static void drops() {
        OffOnTheSecond x = Checks.with(0, 100, 0, 50, 0, 50, 0, 100);
        x.clock(0, 250);
        Checks.due("25: one", x.drops(0), 1);
        Checks.due("25: the least of equals", x.drops(1), 2);
        Checks.text(x, 0, "(k=0)*(9-p)");
        Checks.due("25: that which keeps the most", x.drops(1), 4);
        x.shift(1, 2);
        Checks.due("25: p in the order", x.drops(1), 2);
        x.untell(0);
        x.clock(0, 150);
        Checks.due("25: two", x.drops(0), 2);
        Checks.due("25: the least bits", x.drops(1), 3);
        x.clock(0, 300);
        Checks.due("25: none", x.drops(0), 0);
        Checks.due("25: none", x.drops(1), 0);
        x.clock(0, 0);
        Checks.due("25: all", x.drops(1), 15);
        x.clock(0, 60);
        Checks.due("25: by no set", x.drops(0), Checks.NONE);
        Checks.due("25: by no set", x.drops(1), Checks.NONE);
        Checks.due("25: BEYOND ahead of NONE", x.drops(2), Checks.BEYOND);
        Checks.due("25: what below 0", x.drops(-1), Checks.BEYOND);
        x.drop(0);
        x.clock(0, 100);
        Checks.due("25: only those left", x.drops(1), 8);
        worth();
        most();
    }

    private static void most() {
        OffOnTheSecond x = Checks.with(40, 100, 40, 100, 0, 20, 0, 30);
        x.clock(0, 240);
        Checks.due("25: it is not MOST of the others", x.drops(0), 0);
        x.clock(0, 40);
        Checks.due("25: LEAST of the others", x.drops(1), 4);
        x.clock(0, 251);
        Checks.due("25: above MOST of all", x.drops(1), Checks.NONE);
        x.drop(2);
        x.clock(0, 29);
        Checks.due("25: without the last MOST is enough", x.drops(1), 8);
    }

    /** Fewest come first, then what is worth most, then the bits. */
    private static void worth() {
        OffOnTheSecond x = Checks.with(0, 10, 0, 20, 0, 30, 20, 40, 40, 30);
        x.clock(0, 90);
        Checks.due("25: fits as it is", x.drops(1), 0);
        x.clock(0, 60);
        Checks.due("25: most is left", x.drops(1), 4);
        Checks.text(x, 0, "(l=10)*9+(l=40)*8+(l=30)");
        Checks.due("25: the first is worth more", x.drops(1), 4);
        x.become(0, 20);
        x.truth(0, 10);
        Checks.due("25: two go now", x.drops(1), 2 + 4);
        x.untell(0);
        x.clock(0, 80);
        Checks.due("25: the first is worth less", x.drops(1), 1);
        x.clock(0, 60);
        x.become(0, 0);
        Checks.text(x, 0, "l=30");
        Checks.due("25: the thirties are worth more", x.drops(0), 1);
        Checks.due("25: by worth", x.drops(1), 8);
    }

    private static void row() {
        OffOnTheSecond x = Checks.with(0, 1, 13, 2, 24, 3);
        Checks.due("26: liked", x.row(-1), 5);
        Checks.text(x, 1, "(2-i)*p");
        Checks.due("26: liked by a text", x.row(-1), 5);
        rowOf(x, 2, 1, 0);
        Checks.text(x, 1, "7");
        Checks.due("26: all alike", x.row(-1), 21);
        rowOf(x, 0, 1, 2);
        Checks.text(x, 1, "(k=1&p=0)*50-(p=2)*(i=0)*500");
        Checks.due("26: held each", x.row(-1), 50);
        rowOf(x, 1, 0, 2);
        x.shift(2, 0);
        rowOf(x, 1, 0, 2);
        Checks.due("26: what below -1", x.row(-2), Checks.BEYOND);
        Checks.due("26: what above 5", x.row(6), Checks.BEYOND);
        Checks.due("26: no such place", x.row(3), Checks.NONE);
        x.drop(1);
        rowOf(x, 0, 2);
        Checks.due("26: no such place any more", x.row(2), Checks.NONE);
        sixAndSeven();
    }

    private static void rowOf(OffOnTheSecond x, int... items) {
        for (int p = 0; p < items.length; p++) {
            Checks.due("26: at " + p, x.row(p), items[p]);
        }
    }

    private static void sixAndSeven() {
        OffOnTheSecond x = Checks.with(0, 1, 0, 1, 0, 1, 0, 1, 0, 1, 0, 1, 0, 1);
        Checks.due("26: seven are left", x.row(-1), Checks.STATE);
        Checks.due("26: BEYOND ahead of STATE", x.row(6), Checks.BEYOND);
        x.drop(0);
        Checks.due("26: six", x.row(-1), 2 + 6 + 12 + 20 + 30);
        rowOf(x, 1, 2, 3, 4, 5, 6);
        Checks.text(x, 1, "0-i*p");
        rowOf(x, 6, 5, 4, 3, 2, 1);
        Checks.due("26: below 0 is no ERROR", x.row(-1), -(5 + 8 + 9 + 8 + 5));
        OffOnTheSecond y = new OffOnTheSecond();
        Checks.due("26: of none", y.row(-1), 0);
        Checks.due("26: no place", y.row(0), Checks.NONE);
    }

    private static void odds() {
        OffOnTheSecond x = Checks.with(33, 80, 61, 60, 20, 0);
        x.clock(0, 231);
        fraction(x, 7, 8);
        x.clock(0, 230);
        fraction(x, 1, 1);
        x.clock(0, 232);
        fraction(x, 5, 8);
        x.clock(0, 233);
        fraction(x, 3, 8);
        x.clock(0, 234);
        fraction(x, 1, 8);
        x.clock(0, 235);
        fraction(x, 0, 1);
        x.clock(0, 171);
        fraction(x, 3, 8);
        Checks.due("27: part 2", x.odds(2), Checks.BEYOND);
        Checks.due("27: part below 0", x.odds(-1), Checks.BEYOND);
        x.drop(0);
        x.clock(0, 90);
        fraction(x, 1, 2);
        manyLive();
    }

    private static void manyLive() {
        OffOnTheSecond x = new OffOnTheSecond();
        for (int i = 0; i < 9; i++) {
            x.item(39, 0);
        }
        x.clock(0, 0);
        fraction(x, 1, 1000000000L);
        x.clock(0, 81);
        fraction(x, 1, 1000000000L);
        x.clock(0, 1);
        fraction(x, 9, 1000000000L);
        x.clock(0, 82);
        fraction(x, 0, 1);
        fraction(new OffOnTheSecond(), 0, 1);
    }

    private static void fraction(OffOnTheSecond x, long above, long below) {
        Checks.due("27: above the line", x.odds(0), above);
        Checks.due("27: below the line", x.odds(1), below);
    }

    private static void sums() {
        OffOnTheSecond x = Checks.with(20, 10, 0, 20, 39, 30, 0, 0);
        Checks.due("28: BEYOND ahead of NONE", x.sums(0, 2), Checks.BEYOND);
        Checks.due("28: no such sheet", x.sums(4, 0), Checks.BEYOND);
        Checks.due("28: sheet below 0", x.sums(-1, 0), Checks.BEYOND);
        Checks.due("28: what below 0", x.sums(0, -1), Checks.BEYOND);
        Checks.due("28: missing", x.sums(0, 0), Checks.NONE);
        x.sheet(0, 16, 0);
        Checks.due("28: no number", x.sums(0, 0), Checks.NONE);
        x.sheet(0, 16, 2);
        Checks.due("28: two numbers", x.sums(0, 0), Checks.NONE);
        x.sheet(0, 16, 1);
        sumsOf(x, 30, 4, 3);
        sumsOf(x, 0, 2, 0);
        sumsOf(x, 60, 2, 7);
        sumsOf(x, 61, 0, Checks.NONE);
        sumsOf(x, -1, 0, Checks.NONE);
        x.drop(0);
        sumsOf(x, 30, 2, 4);
        x.drop(3);
        sumsOf(x, 30, 1, 4);
    }

    private static void sumsOf(OffOnTheSecond x, int sum, int howMany, int least) {
        x.put(0, 0, sum);
        Checks.due("28: how many are " + sum, x.sums(0, 0), howMany);
        Checks.due("28: the least that is " + sum, x.sums(0, 1), least);
    }

    private static void onlyThought() {
        OffOnTheSecond x = Checks.with(33, 80, 14, 120, 20, 0);
        x.clock(0, 230);
        x.drops(0);
        x.row(-1);
        x.odds(0);
        x.plan(1);
        x.begins(1, 0);
        Checks.due("all this is only thought: now", x.count(1), 0);
        Checks.due("left", x.count(4), 3);
        Checks.due("on", x.count(5), 0);
        Checks.due("z", x.count(11), 1);
    }
}
