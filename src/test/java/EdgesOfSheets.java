/** The sheets of Terms 4 and promises 31 to 35, at their edges. */
final class EdgesOfSheets {
    private static final String THREE = "item(0,1) item(0,2) item(0,3)";

    private EdgesOfSheets() {
    }

    static void all() {
        terms();
        sheet();
        put();
        move();
        moveErrors();
        truths();
        judge();
    }

    private static void terms() {
        Edges.edge("Terms", "SHEETS 0 .. 3 are rows of 8, 16, 32 bits, at most 24 numbers, or missing (as at first).",
            "put(0,0,1)=NONE put(1,0,1)=NONE put(2,0,1)=NONE put(3,0,1)=NONE put(4,0,1)=BEYOND put(-1,0,1)=BEYOND sheet(0,8,24)=1",
            "put(0,23,1)=1 put(0,24,1)=BEYOND sheet(3,32,24)=1 put(3,23,1)=1 put(3,24,1)=BEYOND sheet(1,16,24)=1 put(1,23,1)=1 put(1,24,1)=BEYOND",
            "sheet(0,8,25)=BEYOND sheet(1,16,25)=BEYOND sheet(3,32,25)=BEYOND put(2,0,1)=NONE put(0,23,1)=1");
    }

    private static void sheet() {
        Edges.edge("31", "A SHEET has n numbers, all 0, of so many bits (8, 16, 32; 0: it is missing, n doesn't matter): 1.",
            THREE + " sheet(0,8,3)=1 put(0,0,5) put(0,1,5) put(0,2,5) truths(0)=3 itemIs(2,2)=5 sheet(0,8,3)=1 truths(0)=3 itemIs(0,2)=0",
            "itemIs(1,2)=0 itemIs(2,2)=0 put(0,2,7) sheet(0,8,2)=1 put(0,2,1)=BEYOND sheet(0,8,3)=1 truths(0)=3 itemIs(2,2)=0",
            "put(0,1,9) sheet(0,32,3)=1 truths(0)=3 itemIs(1,2)=0 put(0,1,999) truths(0)=3 itemIs(1,2)=999 sheet(0,16,0)=1 truths(0)=0",
            "put(0,0,1)=BEYOND sheet(0,0,5)=1 put(0,0,1)=NONE sheet(0,0,0)=1 sheet(0,0,-1)=1 sheet(0,0,25)=1 sheet(0,0,MIN)=1 sheet(0,0,MAX)=1",
            "truths(0)=NONE sheet(0,8,1)=1 truths(0)=1 sheet(0,0,-1)=1 truths(0)=NONE sheet(3,0,1)=1 sheet(3,8,24)=1");
        Edges.edge("31", "BEYOND.",
            "sheet(0,16,2) sheet(-1,8,1)=BEYOND sheet(4,8,1)=BEYOND sheet(MIN,8,1)=BEYOND sheet(MAX,8,1)=BEYOND sheet(4,0,1)=BEYOND",
            "sheet(0,1,1)=BEYOND sheet(0,7,1)=BEYOND sheet(0,9,1)=BEYOND sheet(0,15,1)=BEYOND sheet(0,17,1)=BEYOND sheet(0,24,1)=BEYOND",
            "sheet(0,31,1)=BEYOND sheet(0,33,1)=BEYOND sheet(0,64,1)=BEYOND sheet(0,-8,1)=BEYOND sheet(0,-1,1)=BEYOND sheet(0,MIN,1)=BEYOND",
            "sheet(0,MAX,1)=BEYOND sheet(0,8,25)=BEYOND sheet(0,16,MAX)=BEYOND sheet(0,32,25)=BEYOND put(0,1,1)=1 sheet(4,8,-1)=BEYOND",
            "sheet(0,7,-1)=BEYOND sheet(0,7,25)=BEYOND sheet(4,7,25)=BEYOND sheet(4,7,-1)=BEYOND sheet(-1,0,-1)=BEYOND");
        Edges.edge("31", "STATE: n is below 0 (ahead of BEYOND of n).",
            "sheet(0,8,2) sheet(0,8,-1)=STATE sheet(0,16,-1)=STATE sheet(0,32,-1)=STATE sheet(0,8,MIN)=STATE sheet(0,16,MIN)=STATE put(0,1,1)=1",
            "sheet(1,32,MIN)=STATE put(1,0,1)=NONE sheet(0,0,-1)=1");
    }

    private static void put() {
        Edges.edge("32", "Number i of a SHEET becomes v (its lowest bits): 1.",
            THREE + " sheet(0,8,3) put(0,0,127)=1 put(0,1,256)=1 put(0,2,517)=1 truths(0)=3 itemIs(0,2)=127 itemIs(1,2)=0 itemIs(2,2)=5",
            "put(0,0,-251)=1 truths(0)=3 itemIs(0,2)=5 put(0,0,MIN)=1 truths(0)=3 itemIs(0,2)=0 put(0,0,-1)=1 truths(0)=0 put(0,0,MAX)=1 truths(0)=0",
            // 8 bits have a sign, as a byte has: 128 in them is -128.
            "put(0,0,128)=1 truths(0)=0 put(0,0,255)=1 truths(0)=0",
            "sheet(1,16,3) put(1,0,999)=1 put(1,1,65536)=1 put(1,2,65537)=1 truths(1)=3 itemIs(0,2)=999 itemIs(1,2)=0 itemIs(2,2)=1",
            "put(1,0,256)=1 truths(1)=3 itemIs(0,2)=256 put(1,0,-65000)=1 truths(1)=3 itemIs(0,2)=536 put(1,0,1000)=1 truths(1)=0",
            "put(1,0,65535)=1 truths(1)=0 put(1,0,32768)=1 truths(1)=0 put(1,0,MIN)=1 truths(1)=3 itemIs(0,2)=0",
            "sheet(2,32,3) put(2,0,65537)=1 truths(2)=0 put(2,0,MIN)=1 truths(2)=0 put(2,0,MAX)=1 truths(2)=0 put(2,0,998)=1 put(2,2,4)=1 truths(2)=3",
            "itemIs(0,2)=998 itemIs(1,2)=0 itemIs(2,2)=4");
        Edges.edge("32", "BEYOND: no such SHEET.",
            "sheet(0,8,1) sheet(3,8,1) put(-1,0,1)=BEYOND put(4,0,1)=BEYOND put(MIN,0,1)=BEYOND put(MAX,0,1)=BEYOND put(4,9,1)=BEYOND put(3,0,1)=1");
        Edges.edge("32", "NONE: it is missing.",
            "put(0,0,1)=NONE put(3,0,1)=NONE put(0,-1,1)=NONE put(0,24,1)=NONE put(0,MAX,1)=NONE sheet(0,8,1) put(0,0,1)=1 sheet(0,0,1) put(0,0,1)=NONE");
        Edges.edge("32", "BEYOND: no such number.",
            "sheet(0,8,1) put(0,0,1)=1 put(0,1,1)=BEYOND put(0,-1,1)=BEYOND put(0,MIN,1)=BEYOND put(0,MAX,1)=BEYOND sheet(0,8,0) put(0,0,1)=BEYOND",
            "sheet(0,8,24) put(0,23,1)=1 put(0,24,1)=BEYOND sheet(0,8,23) put(0,23,1)=BEYOND");
    }

    private static void move() {
        String numbers = "item(0,9) item(0,9) item(0,9) item(0,9) sheet(0,16,4) put(0,0,1) put(0,1,2) put(0,2,3) put(0,3,4)";
        Edges.edge("33", "n numbers of a SHEET, from number i on, come to another one (or the same), from its number j on, as they all were: n.",
            numbers + " move(0,0,0,1,3)=3 truths(0)=4 itemIs(0,2)=1 itemIs(1,2)=1 itemIs(2,2)=2 itemIs(3,2)=3",
            "new " + numbers + " move(0,1,0,0,3)=3 truths(0)=4 itemIs(0,2)=2 itemIs(1,2)=3 itemIs(2,2)=4 itemIs(3,2)=4",
            "new " + numbers + " move(0,0,0,0,4)=4 move(0,2,0,2,0)=0 truths(0)=4 itemIs(0,2)=1 itemIs(1,2)=2 itemIs(2,2)=3 itemIs(3,2)=4",
            "new " + numbers + " sheet(3,16,2) move(0,2,3,0,2)=2 truths(3)=2 itemIs(0,2)=3 itemIs(1,2)=4 truths(0)=4 itemIs(0,2)=1 itemIs(3,2)=4",
            "move(3,1,0,0,1)=1 truths(0)=4 itemIs(0,2)=4 itemIs(1,2)=2 truths(3)=2 itemIs(0,2)=3 move(0,4,3,2,0)=0 move(0,0,3,0,0)=0",
            "new sheet(1,32,24) sheet(2,32,24) put(1,23,5) move(1,0,2,0,24)=24 move(1,24,2,24,0)=0 move(1,23,2,0,1)=1 item(0,9) truths(2)=1 itemIs(0,2)=5",
            "new sheet(0,8,0) sheet(1,8,0) move(0,0,1,0,0)=0 move(0,0,0,0,0)=0");
    }

    private static void moveErrors() {
        String three = "sheet(0,8,3) sheet(1,8,4) sheet(2,32,4)";
        Edges.edge("33", "BEYOND: no such SHEET.",
            three + " move(-1,0,0,0,1)=BEYOND move(4,0,0,0,1)=BEYOND move(0,0,-1,0,1)=BEYOND move(0,0,4,0,1)=BEYOND move(MIN,0,MAX,0,1)=BEYOND",
            "move(3,0,4,0,1)=BEYOND move(4,0,3,0,1)=BEYOND move(-1,0,3,0,0)=BEYOND move(2,0,4,0,1)=BEYOND move(4,0,0,0,-1)=BEYOND");
        Edges.edge("33", "NONE: one is missing.",
            three + " move(3,0,0,0,1)=NONE move(0,0,3,0,1)=NONE move(3,0,3,0,0)=NONE move(0,0,3,0,0)=NONE move(0,-1,3,0,1)=NONE",
            "move(3,0,2,9,9)=NONE move(2,0,3,0,-1)=NONE sheet(0,0,0) move(0,0,1,0,1)=NONE move(1,0,0,0,1)=NONE");
        Edges.edge("33", "KIND: they are of unlike bits.",
            three + " move(0,0,2,0,1)=KIND move(2,0,0,0,1)=KIND move(0,0,2,0,0)=KIND move(0,-1,2,0,1)=KIND move(0,0,2,9,1)=KIND",
            "move(0,0,2,0,-1)=KIND sheet(2,16,4) move(0,0,2,0,1)=KIND sheet(1,32,4) move(1,0,2,0,1)=KIND sheet(1,16,4) move(1,0,2,0,1)=1");
        Edges.edge("33", "BEYOND: n, i, or j is below 0, or they don't stand there.",
            three + " move(0,0,1,0,-1)=BEYOND move(0,-1,1,0,1)=BEYOND move(0,0,1,-1,1)=BEYOND move(0,-1,1,0,0)=BEYOND move(0,0,1,-1,0)=BEYOND",
            "move(0,0,1,0,4)=BEYOND move(0,1,1,0,3)=BEYOND move(0,3,1,0,1)=BEYOND move(0,0,1,2,3)=BEYOND move(0,0,1,4,1)=BEYOND move(0,4,1,0,0)=BEYOND",
            "move(0,0,1,5,0)=BEYOND move(0,3,1,4,0)=0 move(0,0,1,1,3)=3 move(0,2,1,3,1)=1 move(0,MAX,1,0,2)=BEYOND move(0,1,1,1,MAX)=BEYOND",
            "move(0,MAX,1,MAX,MAX)=BEYOND move(0,MIN,1,0,1)=BEYOND move(0,0,1,MIN,1)=BEYOND move(0,0,1,0,MIN)=BEYOND move(0,MAX,1,0,0)=BEYOND",
            "move(0,0,0,1,3)=BEYOND move(0,1,0,0,3)=BEYOND move(0,MIN,0,MIN,MIN)=BEYOND");
    }

    private static void truths() {
        Edges.edge("34", "Numbers of a SHEET become TRUE of ITEMS 0, 1, ..: how many, up to the first that is not 0 to 999 (no ERROR then),"
            + " or for which there is no ITEM.",
            "sheet(0,32,3) truths(0)=0 " + THREE + " put(0,0,999) put(0,2,7) truths(0)=3 itemIs(0,2)=999 itemIs(1,2)=0 itemIs(2,2)=7",
            "put(0,1,1000) put(0,0,5) put(0,2,8) truths(0)=1 itemIs(0,2)=5 itemIs(1,2)=0 itemIs(2,2)=7 put(0,1,-1) truths(0)=1",
            "put(0,0,-1) truths(0)=0 itemIs(0,2)=5 put(0,0,1000) truths(0)=0 put(0,0,MIN) truths(0)=0 put(0,0,MAX) truths(0)=0 told(1)=0",
            "sheet(0,32,4) truths(0)=3 sheet(0,32,2) put(0,0,6) truths(0)=2 itemIs(0,2)=6 itemIs(2,2)=0 sheet(0,32,0) truths(0)=0",
            "new 9*item(0,1) sheet(3,16,24) put(3,8,9) put(3,9,1000) truths(3)=9 itemIs(8,2)=9",
            // By their numbers, not by places, and of those that aren't LEFT, too.
            "new " + THREE + " shift(2,0) drop(0) air(3) sheet(0,8,3) put(0,0,4) put(0,1,5) put(0,2,6) truths(0)=3 itemIs(0,2)=4 itemIs(1,2)=5",
            "itemIs(2,2)=6 itemIs(0,6)=1 itemIs(2,6)=2 count(1)=3");
        Edges.edge("34", "BEYOND: no such SHEET.",
            "sheet(0,8,1) item(0,9) truths(-1)=BEYOND truths(4)=BEYOND truths(MIN)=BEYOND truths(MAX)=BEYOND sheet(3,8,1) truths(3)=1");
        Edges.edge("34", "NONE: it is missing.",
            "item(0,9) truths(0)=NONE truths(3)=NONE sheet(0,8,1) truths(1)=NONE truths(0)=1 sheet(0,0,1) truths(0)=NONE");
    }

    private static void judge() {
        Edges.edge("35", "Numbers of a SHEET are seconds of the ITEMS that are LEFT, in THE ORDER: how many are within LEAST and MOST, from the first on.",
            "sheet(0,32,3) judge(0)=0 item(14,120) item(0,50) item(20,0) put(0,0,40) put(0,1,50) put(0,2,30) judge(0)=3 put(0,0,39) judge(0)=0",
            "put(0,0,120) judge(0)=3 put(0,0,121) judge(0)=0 put(0,0,120) put(0,1,49) judge(0)=1 put(0,1,51) judge(0)=1 put(0,1,50) put(0,2,29)",
            "judge(0)=2 put(0,2,90) judge(0)=3 put(0,2,91) judge(0)=2 put(0,2,MIN) judge(0)=2 put(0,2,MAX) judge(0)=2",
            // More numbers than ITEMS, fewer, none; ITEMS that are DROPPED or DONE have none.
            "sheet(1,16,24) put(1,0,40) put(1,1,50) put(1,2,90) put(1,3,90) judge(1)=3 sheet(1,16,2) put(1,0,40) put(1,1,50) judge(1)=2",
            "sheet(1,16,1) judge(1)=0 put(1,0,40) judge(1)=1 sheet(1,16,0) judge(1)=0 drop(1) sheet(1,16,2) put(1,0,40) put(1,1,90) judge(1)=2",
            "shift(2,0) judge(1)=2 put(1,1,121) judge(1)=1 put(1,0,29) judge(1)=0 air(30) put(1,0,40) judge(1)=1 drop(0) judge(1)=0 sheet(1,16,0) judge(1)=0 count(1)=30",
            "new 9*item(40,1) sheet(0,8,24) judge(0)=9 put(0,8,1) judge(0)=9 put(0,8,2) judge(0)=8 put(0,0,2) judge(0)=0");
        Edges.edge("35", "BEYOND: no such SHEET.",
            "sheet(0,8,1) item(40,9) judge(-1)=BEYOND judge(4)=BEYOND judge(MIN)=BEYOND judge(MAX)=BEYOND sheet(3,8,1) judge(3)=1");
        Edges.edge("35", "NONE: it is missing.",
            "item(40,9) judge(0)=NONE judge(3)=NONE sheet(0,8,1) judge(1)=NONE judge(0)=1 sheet(0,0,1) judge(0)=NONE");
    }
}
