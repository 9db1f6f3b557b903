/** Terms 1 and promises 1 to 8, at their edges. */
final class EdgesOfItems {
    private EdgesOfItems() {
    }

    static void all() {
        terms();
        leastAndMost();
        clocks();
        newObject();
        item();
        itemIs();
        become();
        as();
        truth();
        shift();
        clock();
    }

    private static void terms() {
        Edges.edge("Terms", "ITEMS 0, 1, .. (at most 9)",
            "count(0)=0 item(0,1)=0 count(0)=1 item(0,1)=1 item(0,1)=2 item(0,1)=3 item(0,1)=4 item(0,1)=5 item(0,1)=6",
            "item(0,1)=7 count(0)=8 item(0,1)=8 count(0)=9 item(0,1)=FULL count(0)=9 itemIs(8,2)=1 itemIs(9,2)=BEYOND");
        Edges.edge("Terms", "of KINDS: 0 ITEM, 1 SPORT under ITEM, 2 WEATHER under ITEM, 3 LIVE under ITEM, 4 DUCK under SPORT,"
            + " 5 BREEZE under WEATHER, 6 LISBON under LIVE;",
            "item(-1,1)=BEYOND item(0,1)=0 itemIs(0,0)=0 item(60,1)=1 itemIs(1,0)=6 item(69,1)=2 itemIs(2,0)=6 item(70,1)=BEYOND",
            "new item(5,1) as(0,0)=5 as(0,1)=KIND as(0,2)=KIND as(0,3)=KIND as(0,4)=KIND as(0,5)=KIND as(0,6)=KIND",
            "new item(15,1) as(0,0)=5 as(0,1)=5 as(0,2)=KIND as(0,3)=KIND as(0,4)=KIND as(0,5)=KIND as(0,6)=KIND",
            "new item(25,1) as(0,0)=5 as(0,1)=KIND as(0,2)=5 as(0,3)=KIND as(0,4)=KIND as(0,5)=KIND as(0,6)=KIND",
            "new item(35,1) as(0,0)=5 as(0,1)=KIND as(0,2)=KIND as(0,3)=5 as(0,4)=KIND as(0,5)=KIND as(0,6)=KIND",
            "new item(45,1) as(0,0)=5 as(0,1)=5 as(0,2)=KIND as(0,3)=KIND as(0,4)=5 as(0,5)=KIND as(0,6)=KIND",
            "new item(55,1) as(0,0)=5 as(0,1)=KIND as(0,2)=5 as(0,3)=KIND as(0,4)=KIND as(0,5)=5 as(0,6)=KIND",
            "new item(65,1) as(0,0)=5 as(0,1)=KIND as(0,2)=KIND as(0,3)=5 as(0,4)=KIND as(0,5)=KIND as(0,6)=5");
        Edges.edge("Terms", "each with a number m (0 .. 9),",
            "item(0,1) itemIs(0,0)=0 itemIs(0,1)=0 item(9,1) itemIs(1,0)=0 itemIs(1,1)=9 item(10,1) itemIs(2,0)=1 itemIs(2,1)=0",
            "item(59,1) itemIs(3,0)=5 itemIs(3,1)=9 item(60,1) itemIs(4,0)=6 itemIs(4,1)=0 item(69,1) itemIs(5,1)=9");
        Edges.edge("Terms", "TRUE seconds (0 .. 999),",
            "item(0,-1)=BEYOND item(0,0)=0 itemIs(0,2)=0 item(0,999)=1 itemIs(1,2)=999 item(0,1000)=BEYOND",
            "truth(0,-1)=BEYOND truth(0,999)=0 truth(1,0)=999 truth(0,1000)=BEYOND itemIs(0,2)=999 itemIs(1,2)=0");
        Edges.edge("Terms", "and a place in THE ORDER (0, 1, ..; by numbers, at first);",
            "9*item(0,1) itemIs(0,5)=0 itemIs(1,5)=1 itemIs(2,5)=2 itemIs(3,5)=3 itemIs(4,5)=4 itemIs(5,5)=5 itemIs(6,5)=6",
            "itemIs(7,5)=7 itemIs(8,5)=8");
        Edges.edge("Terms", "LEFT (at first), DROPPED, or DONE.",
            "item(0,1) item(0,1) itemIs(0,6)=0 itemIs(1,6)=0 drop(0) itemIs(0,6)=1 air(1) itemIs(1,6)=2 count(4)=0");
        Edges.edge("Terms", "The one that is ON is the first one in THE ORDER that is LEFT.",
            "count(5)=-1 item(0,1) count(5)=0 drop(0) count(5)=-1 item(0,2) count(5)=1 air(2)=2 count(5)=-1 anew()=1 count(5)=1",
            "new item(0,1) item(0,2) item(0,3) count(5)=0 shift(2,0) count(5)=2 drop(2) count(5)=0 air(1)=1 count(5)=1",
            "new 9*item(0,1) drop(0) drop(1) drop(2) drop(3) drop(4) drop(5) drop(6) drop(7) count(5)=8 air(1)=1 count(5)=-1");
        Edges.edge("Terms", "What there is, is END less NOW (below 0, if it is over);",
            "clock(0,7) clock(1,7) fits()=1 spare()=0 drops(0)=0 clock(1,8) fits()=0 spare()=NONE drops(0)=NONE odds(0)=0",
            "new item(49,0) clock(0,7) clock(1,7) fits()=1 plan(0)=0 clock(1,8) fits()=0 plan(0)=NONE drops(1)=NONE",
            "new clock(1,9999) clock(0,0) over()=9999 clock(0,9999) clock(1,0) over()=-9999 spare()=9999");
        Edges.edge("Terms", "it FITS a set of ITEMS, if it is LEAST of all of them together or more, and MOST of all of them together or less.",
            "item(20,0) item(49,100) clock(0,29) fits()=0 clock(0,30) fits()=1 clock(0,190) fits()=1 clock(0,191) fits()=0",
            "new item(0,50) clock(0,49) fits()=0 clock(0,50) fits()=1 clock(0,51) fits()=0",
            "new 9*item(69,999) clock(0,9431) fits()=0 clock(0,9432) fits()=1 clock(0,9675) fits()=1 clock(0,9676) fits()=0");
    }

    private static void leastAndMost() {
        Edges.edge("Terms", "LEAST, MOST (seconds that it may take): ITEM: both TRUE.",
            "item(0,0) itemIs(0,3)=0 itemIs(0,4)=0 item(9,999) itemIs(1,3)=999 itemIs(1,4)=999");
        Edges.edge("Terms", "SPORT: LEAST is TRUE, but 10 times m at most; MOST as ITEM.",
            "item(10,0) itemIs(0,3)=0 itemIs(0,4)=0 item(10,1) itemIs(1,3)=0 itemIs(1,4)=1 item(10,999) itemIs(2,3)=0 itemIs(2,4)=999",
            "new item(14,39) itemIs(0,3)=39 itemIs(0,4)=39 truth(0,40) itemIs(0,3)=40 itemIs(0,4)=40 truth(0,41) itemIs(0,3)=40",
            "itemIs(0,4)=41 new item(19,89) itemIs(0,3)=89 truth(0,90) itemIs(0,3)=90 truth(0,91) itemIs(0,3)=90 itemIs(0,4)=91",
            "truth(0,999) itemIs(0,3)=90 itemIs(0,4)=999 truth(0,0) itemIs(0,3)=0 itemIs(0,4)=0");
        Edges.edge("Terms", "WEATHER: 30, 90.",
            "item(20,0) itemIs(0,3)=30 itemIs(0,4)=90 item(29,999) itemIs(1,3)=30 itemIs(1,4)=90");
        Edges.edge("Terms", "LIVE: LEAST TRUE and m; MOST TRUE and 4 times m.",
            "item(30,0) itemIs(0,3)=0 itemIs(0,4)=0 item(39,0) itemIs(1,3)=9 itemIs(1,4)=36 item(30,999) itemIs(2,3)=999",
            "itemIs(2,4)=999 item(39,999) itemIs(3,3)=1008 itemIs(3,4)=1035 item(31,5) itemIs(4,3)=6 itemIs(4,4)=9");
        Edges.edge("Terms", "DUCK: LEAST 0; MOST as SPORT.",
            "item(40,0) itemIs(0,3)=0 itemIs(0,4)=0 item(49,999) itemIs(1,3)=0 itemIs(1,4)=999 item(40,999) itemIs(2,3)=0",
            "itemIs(2,4)=999 item(49,1) itemIs(3,3)=0 itemIs(3,4)=1");
        Edges.edge("Terms", "BREEZE: LEAST as WEATHER, less m; MOST as WEATHER, and 10 times m.",
            "item(50,0) itemIs(0,3)=30 itemIs(0,4)=90 item(59,0) itemIs(1,3)=21 itemIs(1,4)=180 item(51,999) itemIs(2,3)=29",
            "itemIs(2,4)=100");
        Edges.edge("Terms", "LISBON: both as LIVE, and 40.",
            "item(60,0) itemIs(0,3)=40 itemIs(0,4)=40 item(69,0) itemIs(1,3)=49 itemIs(1,4)=76 item(69,999) itemIs(2,3)=1048",
            "itemIs(2,4)=1075 item(61,5) itemIs(3,3)=46 itemIs(3,4)=49");
    }

    private static void clocks() {
        Edges.edge("Terms", "END (0 .. 9999; 600 at first),",
            "count(2)=600 clock(0,-1)=BEYOND clock(0,0)=600 count(2)=0 clock(0,9999)=0 count(2)=9999 clock(0,10000)=BEYOND count(2)=9999");
        Edges.edge("Terms", "NOW (0 .. 9999; 0 at first),",
            "count(1)=0 clock(1,-1)=BEYOND clock(1,9999)=0 count(1)=9999 clock(1,10000)=BEYOND clock(1,0)=9999 count(1)=0");
        Edges.edge("Terms", "TUNE (0 .. 99; 30 at first).",
            "count(3)=30 clock(2,-1)=BEYOND clock(2,0)=30 count(3)=0 clock(2,99)=0 count(3)=99 clock(2,100)=BEYOND count(3)=99",
            "clock(2,9999)=BEYOND");
    }

    private static void newObject() {
        Edges.edge("1", "All as at first; no ITEMS, no TEXTS.",
            "told(1)=0 told(2)=0 told(3)=0 told(4)=0 told(5)=0 told(6)=0 count(0)=0 count(1)=0 count(2)=600 count(3)=30 count(4)=0",
            "count(5)=-1 count(6)=0 count(7)=0 count(8)=0 count(9)=0 count(10)=0 count(11)=1 over()=-600 fits()=0 spare()=600",
            "tuned()=570 check()=0 anew()=0 loose(9)=0 untell(0)=0 untell(1)=0 law(0,3,7,9)=7 law(1,3,7,9)=21 text(0)=-10 text(1)=-10",
            "row(-1)=0 odds(0)=0 odds(1)=1 seed(1)=1 itemIs(0,0)=BEYOND plan(0)=BEYOND drops(0)=NONE row(0)=NONE air(0)=STATE",
            "body(0)=NONE restore()=NONE truths(0)=NONE judge(1)=NONE put(2,0,0)=NONE sums(3,0)=NONE move(0,0,0,0,0)=NONE image()=1");
    }

    private static void item() {
        Edges.edge("2", "One more ITEM (km: 10 times the KIND, and m), at the end of THE ORDER: the number.",
            "item(14,1)=0 item(25,2)=1 itemIs(1,0)=2 itemIs(1,1)=5 itemIs(1,2)=2 itemIs(1,5)=1 itemIs(1,6)=0 shift(0,1)=0",
            "item(0,3)=2 itemIs(2,5)=2 itemIs(0,5)=1 itemIs(1,5)=0 drop(1) air(1)=1 item(0,4)=3 itemIs(3,5)=3 itemIs(3,6)=0");
        Edges.edge("2", "BEYOND.",
            "item(-1,0)=BEYOND item(70,0)=BEYOND item(MIN,0)=BEYOND item(MAX,0)=BEYOND item(0,-1)=BEYOND item(0,1000)=BEYOND",
            "item(0,MIN)=BEYOND item(0,MAX)=BEYOND item(70,1000)=BEYOND count(0)=0 item(69,999)=0 item(0,0)=1");
        Edges.edge("2", "FULL.",
            "8*item(0,1) item(0,1)=8 item(0,1)=FULL item(69,999)=FULL drop(0) item(0,1)=FULL air(1) item(0,1)=FULL anew() item(0,1)=FULL",
            "item(-1,0)=BEYOND item(70,0)=BEYOND item(0,-1)=BEYOND item(0,1000)=BEYOND");
    }

    private static void itemIs() {
        Edges.edge("3", "Of an ITEM: 0 KIND, 1 m, 2 TRUE, 3 LEAST, 4 MOST, 5 its place in THE ORDER,"
            + " 6 whether it is LEFT (0), DROPPED (1), DONE (2).",
            "item(33,80) item(64,60) item(5,1) shift(2,0) itemIs(0,0)=3 itemIs(0,1)=3 itemIs(0,2)=80 itemIs(0,3)=83 itemIs(0,4)=92",
            "itemIs(0,5)=1 itemIs(0,6)=0 drop(0) itemIs(0,5)=1 itemIs(0,6)=1 air(1) itemIs(2,5)=0 itemIs(2,6)=2 itemIs(1,6)=0",
            "itemIs(0,3)=83 itemIs(2,4)=1 new 9*item(69,999) itemIs(8,0)=6 itemIs(8,5)=8 itemIs(0,0)=6");
        Edges.edge("3", "BEYOND.",
            "itemIs(0,0)=BEYOND item(0,1) itemIs(-1,0)=BEYOND itemIs(1,0)=BEYOND itemIs(MIN,0)=BEYOND itemIs(MAX,0)=BEYOND",
            "itemIs(0,-1)=BEYOND itemIs(0,0)=0 itemIs(0,6)=0 itemIs(0,7)=BEYOND itemIs(0,MIN)=BEYOND itemIs(0,MAX)=BEYOND",
            "itemIs(1,7)=BEYOND new 9*item(0,1) itemIs(8,2)=1 itemIs(9,2)=BEYOND");
    }

    private static void become() {
        Edges.edge("4", "An ITEM becomes one of a KIND, with m (km): the KIND that it was.",
            "item(35,50) become(0,69)=3 itemIs(0,0)=6 itemIs(0,1)=9 itemIs(0,2)=50 itemIs(0,3)=99 itemIs(0,4)=126 become(0,0)=6",
            "itemIs(0,0)=0 itemIs(0,1)=0 itemIs(0,4)=50 become(0,0)=0",
            "new item(0,5) item(0,6) drop(0) become(0,10)=0 itemIs(0,6)=1 itemIs(0,5)=0 air(6) become(1,20)=0 itemIs(1,6)=2 count(4)=0");
        Edges.edge("4", "BEYOND.",
            "become(0,0)=BEYOND item(12,5) become(-1,0)=BEYOND become(1,0)=BEYOND become(MIN,0)=BEYOND become(MAX,0)=BEYOND",
            "become(0,-1)=BEYOND become(0,70)=BEYOND become(0,MIN)=BEYOND become(0,MAX)=BEYOND become(1,70)=BEYOND itemIs(0,0)=1",
            "itemIs(0,1)=2 new 9*item(0,1) become(8,69)=0 become(9,0)=BEYOND");
    }

    private static void as() {
        Edges.edge("5", "An ITEM as one of a KIND: m.",
            "item(60,1) as(0,6)=0 as(0,3)=0 as(0,0)=0 item(49,1) as(1,4)=9 as(1,1)=9 as(1,0)=9 drop(0) as(0,6)=0 air(0) as(1,0)=9");
        Edges.edge("5", "BEYOND.",
            "as(0,0)=BEYOND item(0,1) as(-1,0)=BEYOND as(1,0)=BEYOND as(MIN,0)=BEYOND as(MAX,0)=BEYOND",
            "as(0,-1)=BEYOND as(0,0)=0 as(0,6)=KIND as(0,7)=BEYOND as(0,MIN)=BEYOND as(0,MAX)=BEYOND as(1,6)=BEYOND as(1,7)=BEYOND");
        Edges.edge("5", "KIND: it isn't of that KIND, nor of one under it.",
            "item(17,1) as(0,1)=7 as(0,4)=KIND as(0,2)=KIND become(0,48) as(0,1)=8 as(0,4)=8 as(0,5)=KIND become(0,3) as(0,1)=KIND",
            "as(0,0)=3 drop(0) as(0,1)=KIND told(5)=5");
    }

    private static void truth() {
        Edges.edge("6", "TRUE of an ITEM becomes v: what it was.",
            "item(14,50) truth(0,0)=50 itemIs(0,3)=0 truth(0,999)=0 itemIs(0,4)=999 truth(0,999)=999 drop(0) truth(0,1)=999 itemIs(0,2)=1",
            "itemIs(0,6)=1 new item(0,5) air(5) truth(0,6)=5 itemIs(0,6)=2 count(1)=5");
        Edges.edge("6", "BEYOND.",
            "truth(0,0)=BEYOND item(0,5) truth(-1,0)=BEYOND truth(1,0)=BEYOND truth(MIN,0)=BEYOND truth(MAX,0)=BEYOND",
            "truth(0,-1)=BEYOND truth(0,1000)=BEYOND truth(0,MIN)=BEYOND truth(0,MAX)=BEYOND truth(1,1000)=BEYOND itemIs(0,2)=5",
            "new 9*item(0,1) truth(8,2)=1 truth(9,2)=BEYOND");
    }

    private static void shift() {
        Edges.edge("7", "An ITEM comes to a place in THE ORDER, those between move by one: its place till then.",
            "item(0,1) shift(0,0)=0 itemIs(0,5)=0 item(0,2) shift(0,1)=0 itemIs(0,5)=1 itemIs(1,5)=0 shift(0,1)=1 itemIs(0,5)=1",
            "new 9*item(0,1) shift(0,8)=0 itemIs(0,5)=8 itemIs(1,5)=0 itemIs(8,5)=7 shift(0,0)=8 itemIs(0,5)=0 itemIs(1,5)=1",
            "itemIs(8,5)=8 shift(6,3)=6 itemIs(2,5)=2 itemIs(6,5)=3 itemIs(3,5)=4 itemIs(4,5)=5 itemIs(5,5)=6 itemIs(7,5)=7",
            "new item(0,1) item(0,2) item(0,3) drop(1) shift(0,2)=0 itemIs(1,5)=0 itemIs(2,5)=1 itemIs(0,5)=2");
        Edges.edge("7", "BEYOND: also a place for which there is no ITEM.",
            "shift(0,0)=BEYOND item(0,1) shift(0,1)=BEYOND shift(0,-1)=BEYOND shift(-1,0)=BEYOND shift(1,0)=BEYOND",
            "shift(MIN,0)=BEYOND shift(MAX,0)=BEYOND shift(0,MIN)=BEYOND shift(0,MAX)=BEYOND item(0,2) shift(0,2)=BEYOND shift(0,1)=0",
            "shift(2,2)=BEYOND drop(0) shift(0,2)=BEYOND shift(0,-1)=BEYOND new 9*item(0,1) shift(0,9)=BEYOND shift(9,0)=BEYOND");
        Edges.edge("7", "STATE: it isn't LEFT.",
            "item(0,1) item(0,2) item(0,3) drop(0) shift(0,0)=STATE shift(0,2)=STATE air(2) shift(1,1)=STATE shift(1,0)=STATE",
            "shift(2,0)=2 itemIs(2,5)=0 itemIs(0,5)=1 itemIs(1,5)=2 anew() shift(1,0)=2 shift(0,0)=STATE");
    }

    private static void clock() {
        Edges.edge("8", "END (what 0), NOW (1), TUNE (2) becomes v: what it was.",
            "clock(0,1)=600 clock(1,2)=0 clock(2,3)=30 count(2)=1 count(1)=2 count(3)=3 clock(0,1)=1 clock(1,2)=2 clock(2,3)=3");
        Edges.edge("8", "BEYOND.",
            "clock(-1,0)=BEYOND clock(3,0)=BEYOND clock(MIN,0)=BEYOND clock(MAX,0)=BEYOND clock(0,-1)=BEYOND clock(0,10000)=BEYOND",
            "clock(1,-1)=BEYOND clock(1,10000)=BEYOND clock(2,-1)=BEYOND clock(2,100)=BEYOND clock(0,MIN)=BEYOND clock(0,MAX)=BEYOND",
            "clock(1,MIN)=BEYOND clock(1,MAX)=BEYOND clock(2,MIN)=BEYOND clock(2,MAX)=BEYOND clock(3,10000)=BEYOND",
            "count(2)=600 count(1)=0 count(3)=30");
    }
}
