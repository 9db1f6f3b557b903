/** The draws of Terms 3 and promises 13 to 18, at their edges. */
final class EdgesOnAir {
    private EdgesOnAir() {
    }

    static void all() {
        air();
        breaks();
        drop();
        looseOfNone();
        looseAndTheLatest();
        draws();
        anew();
        seed();
    }

    private static void air() {
        Edges.edge("13", "The ITEM that is ON takes so many seconds, and is DONE: NOW.",
            "item(14,120) item(0,7) air(40)=40 itemIs(0,6)=2 itemIs(1,6)=0 count(5)=1 air(7)=47 itemIs(1,6)=2 count(5)=-1 count(4)=0",
            "new item(0,1) item(0,2) shift(1,0) air(2)=2 itemIs(1,6)=2 itemIs(0,6)=0 itemIs(1,5)=0",
            "new item(0,1) item(0,2) drop(0) air(2)=2 itemIs(0,6)=1");
        Edges.edge("13", "STATE: none is LEFT.",
            "air(0)=STATE air(-1)=STATE air(MIN)=STATE air(MAX)=STATE item(0,5) drop(0) air(5)=STATE item(0,6) air(6)=6 air(6)=STATE",
            "air(-1)=STATE clock(1,9999) air(1)=STATE");
        Edges.edge("13", "BEYOND: less than LEAST, more than MOST.",
            "item(0,5) air(4)=BEYOND air(6)=BEYOND air(MIN)=BEYOND air(MAX)=BEYOND air(5)=5",
            "new item(14,120) air(39)=BEYOND air(121)=BEYOND air(40)=40 new item(14,120) air(120)=120",
            "new item(20,5) air(29)=BEYOND air(91)=BEYOND air(30)=30 new item(20,5) air(90)=90",
            "new item(33,80) air(82)=BEYOND air(93)=BEYOND air(83)=83 new item(33,80) air(92)=92",
            "new item(42,40) air(-1)=BEYOND air(41)=BEYOND air(0)=0 itemIs(0,6)=2 new item(42,40) air(40)=40",
            "new item(57,5) air(22)=BEYOND air(161)=BEYOND air(23)=23 new item(57,5) air(160)=160",
            "new item(64,60) air(103)=BEYOND air(117)=BEYOND air(104)=104 new item(64,60) air(116)=116",
            // BEYOND ahead of the second STATE.
            "new item(20,5) clock(1,9999) air(29)=BEYOND air(91)=BEYOND air(MAX)=BEYOND air(30)=STATE");
        Edges.edge("13", "STATE: NOW would be above 9999.",
            "item(20,5) clock(1,9970) air(30)=STATE air(90)=STATE clock(1,9969) air(31)=STATE air(30)=9999 count(1)=9999",
            "new item(40,5) clock(1,9999) air(1)=STATE air(5)=STATE air(0)=9999 count(4)=0");
    }

    private static void breaks() {
        Edges.edge("14", "News of so many seconds (1 .. 300): NOW.",
            "breaks(1)=1 breaks(300)=301 breaks(299)=600 breaks(2)=602 count(1)=602 item(0,5) breaks(1)=603 count(4)=1 count(5)=0");
        Edges.edge("14", "BEYOND.",
            "breaks(0)=BEYOND breaks(301)=BEYOND breaks(-1)=BEYOND breaks(MIN)=BEYOND breaks(MAX)=BEYOND count(1)=0",
            "clock(1,9999) breaks(0)=BEYOND breaks(301)=BEYOND breaks(MAX)=BEYOND");
        Edges.edge("14", "STATE: NOW would be above 9999.",
            "clock(1,9999) breaks(1)=STATE breaks(300)=STATE clock(1,9998) breaks(2)=STATE breaks(1)=9999",
            "clock(1,9699) breaks(300)=9999 clock(1,9700) breaks(300)=STATE breaks(299)=9999");
    }

    private static void drop() {
        Edges.edge("15", "An ITEM is DROPPED: how many are LEFT.",
            "item(0,1) item(0,2) item(0,3) drop(1)=2 itemIs(1,6)=1 itemIs(1,5)=1 air(1) drop(2)=0 count(5)=-1 count(1)=1",
            "new 9*item(0,1) drop(8)=8 drop(0)=7 drop(1)=6 drop(2)=5 drop(3)=4 drop(4)=3 drop(5)=2 drop(6)=1 drop(7)=0 count(4)=0");
        Edges.edge("15", "BEYOND.",
            "drop(0)=BEYOND item(0,1) drop(-1)=BEYOND drop(1)=BEYOND drop(MIN)=BEYOND drop(MAX)=BEYOND count(4)=1",
            "new 9*item(0,1) drop(9)=BEYOND drop(8)=8");
        Edges.edge("15", "STATE: it isn't LEFT.",
            "item(0,1) item(0,2) drop(0)=1 drop(0)=STATE air(2) drop(1)=STATE itemIs(1,6)=2 drop(2)=BEYOND anew()=1 drop(0)=STATE drop(1)=0");
    }

    private static void looseOfNone() {
        Edges.edge("16", "BEYOND.",
            "loose(0)=BEYOND loose(10)=BEYOND loose(-1)=BEYOND loose(MIN)=BEYOND loose(MAX)=BEYOND item(0,1) loose(0)=BEYOND",
            "loose(10)=BEYOND count(4)=1 count(11)=1 clock(1,9999) loose(10)=BEYOND loose(0)=BEYOND");
        Edges.edge("16", "n (1 .. 9) ITEMS BY DRAWS, as long as there are some LEFT,",
            "loose(1)=0 loose(9)=0 count(11)=1 item(0,1) drop(0) loose(9)=0 count(11)=1 item(0,7) loose(9)=1 count(1)=7 count(11)=1103527590",
            "loose(1)=0 count(11)=1103527590 anew()=1 loose(1)=1",
            "new 9*item(0,1) loose(1)=1 count(4)=8 loose(7)=7 count(4)=1 loose(9)=1 count(4)=0 count(1)=9 loose(9)=0",
            "new 9*item(0,2) loose(9)=9 count(1)=18 new 9*item(0,2) loose(8)=8 count(5)=8 count(1)=16",
            "new item(0,1) item(0,2) item(0,3) shift(2,0) loose(1)=1 itemIs(2,6)=2 count(1)=3");
    }

    private static void looseAndTheLatest() {
        Edges.edge("16", "and NOW would not be above 9999 (the draw for that one is lost): how many were done.",
            "item(0,20) clock(1,9979) loose(1)=1 count(1)=9999 new item(0,20) clock(1,9980) loose(1)=0 count(1)=9980 count(11)=1103527590",
            "itemIs(0,6)=0 loose(9)=0 clock(1,9979) loose(9)=1 count(1)=9999",
            // What is ON bars the way for those behind it.
            "new item(0,20) item(0,999) item(0,1) clock(1,9970) loose(9)=1 count(1)=9990 count(5)=1 count(4)=2 seed(1) loose(9)=0",
            "count(11)=1103527590 drop(1) loose(9)=1 count(1)=9991 new item(0,0) clock(1,9999) loose(1)=1 count(1)=9999");
    }

    private static void draws() {
        Edges.edge("Terms", "DRAWS: z is told (1 at first); each makes it z * 1103515245 + 12345 (an int), and gives z >>> 8.",
            "count(11)=1 item(0,1) item(0,1) loose(1)=1 count(11)=1103527590 loose(1)=1 count(11)=" + next(1103527590),
            "new item(0,1) seed(MIN)=1 loose(1)=1 count(11)=" + next(Integer.MIN_VALUE),
            "new item(0,1) seed(MAX)=1 loose(1)=1 count(11)=" + next(Integer.MAX_VALUE),
            "new item(0,1) seed(0)=1 loose(1)=1 count(11)=12345",
            // 4310654, the first draw, leaves 28 by 61, 70 by 81, 0 by 1.
            "new item(20,0) loose(1)=1 count(1)=58 new item(14,120) loose(1)=1 count(1)=" + (40 + 4310654 % 81));
        Edges.about("Terms", "BY DRAWS the ITEM that is ON takes LEAST and a draw's rest by 1 more than what MOST is above that.");
        bothEnds(0, 50, 50, 50);
        bothEnds(14, 120, 40, 120);
        bothEnds(10, 3, 0, 3);
        bothEnds(20, 5, 30, 90);
        bothEnds(33, 80, 83, 92);
        bothEnds(30, 80, 80, 80);
        bothEnds(49, 0, 0, 0);
        bothEnds(42, 40, 0, 40);
        bothEnds(57, 5, 23, 160);
        bothEnds(64, 60, 104, 116);
    }

    /** Of many seeds, below 0 too, each gives what is due, and LEAST and MOST are among it. */
    private static void bothEnds(int km, int truth, int least, int most) {
        boolean leastTaken = false;
        boolean mostTaken = false;
        for (int i = -1500; i < 1500; i++) {
            int v = i * 1000003;
            OffOnTheSecond x = Checks.with(km, truth);
            x.seed(v);
            Edges.due("loose(1)", x.loose(1), 1);
            int due = least + (next(v) >>> 8) % (most - least + 1);
            Edges.due("count(1) of " + km + " after seed(" + v + ")", x.count(1), due);
            leastTaken |= x.count(1) == least;
            mostTaken |= x.count(1) == most;
        }
        Edges.due("LEAST is taken", leastTaken ? 1 : 0, 1);
        Edges.due("MOST is taken", mostTaken ? 1 : 0, 1);
    }

    private static int next(int z) {
        return z * 1103515245 + 12345;
    }

    private static void anew() {
        Edges.edge("17", "NOW is 0, what was DONE is LEFT again (what is DROPPED stays so): how many are LEFT.",
            "anew()=0 clock(1,9999) anew()=0 count(1)=0 count(2)=600 count(3)=30 item(0,1) item(0,2) item(0,3) drop(1) shift(2,0)",
            "air(3) breaks(50) anew()=2 count(1)=0 itemIs(2,6)=0 itemIs(1,6)=1 itemIs(0,6)=0 count(5)=2 itemIs(2,5)=0 drop(0) drop(2)",
            "anew()=0 new 9*item(0,1) loose(9) anew()=9 anew()=9 count(11)=" + draws(9));
    }

    private static int draws(int n) {
        int z = 1;
        for (int i = 0; i < n; i++) {
            z = next(z);
        }
        return z;
    }

    private static void seed() {
        Edges.edge("18", "z becomes v: what it was (any number).",
            "seed(MIN)=1 seed(MAX)=MIN seed(-1000000001)=MAX count(11)=-1000000001 seed(0)=-1000000001 seed(-1)=0 seed(1)=-1 told(1)=0",
            "seed(-1000000006)=1 seed(1)=-1000000006 told(6)=0");
    }
}
