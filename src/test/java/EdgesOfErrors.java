/**
 * The ERRORS of the Terms: each refused call, with each of its ERRORS, alone and where two would hold
 * at once, on an object in which there is something of all. Edges holds each to change nothing.
 */
final class EdgesOfErrors {
    /** Nine ITEMS of all KINDS (one DROPPED, one DONE, two ahead of the rest), TEXTS, a TAPE, SHEETS, an IMAGE. */
    private static final String BUSY = "item(3,251) item(14,120) item(20,55) item(33,80) item(42,40) item(57,33) item(64,60) item(5,17)"
        + " 'k*9+p+l' text(0) 'i*p-k' text(1) shift(5,0) drop(1) image() air(30) shift(4,2) '12+k' tell(251) tell(120) tell(9)"
        + " sheet(0,8,3) put(0,0,5) put(0,2,7) sheet(1,16,8) put(1,7,300) sheet(2,32,1) put(2,0,60) clock(2,40) seed(77) breaks(5)"
        + " truth(7,18) voice(4,3,9) ";
    private static final String FULL_OF_ITEMS = BUSY + "item(19,200) ";
    private static final String LATE = BUSY + "clock(1,9999) ";
    private static final String OVER = BUSY + "clock(0,0) ";

    private EdgesOfErrors() {
    }

    static void all() {
        numbers();
        inOrderOfItems();
        inOrderOnAir();
        inOrderOfThought();
        inOrderOfSheets();
        nothingChanges();
        quotients();
    }

    private static void numbers() {
        Edges.edge("Terms", "ERRORS are answers below -1000000000: LOW is -1000000000; LOW - 1 BEYOND, LOW - 2 NONE, LOW - 3 STATE,"
            + " LOW - 4 FULL, LOW - 5 KIND, LOW - 6 PARTED (in longs, too).",
            "drop(0)=-1000000001 restore()=-1000000002 air(0)=-1000000003 24*tell(0) tell(0)=-1000000004 item(0,1) as(0,1)=-1000000005",
            "voice(0,3,1)=-1000000006 odds(2)=-1000000001 odds(-1)=-1000000001 told(1)=3 told(2)=1 told(3)=1 told(4)=1 told(5)=1 told(6)=1");
    }

    private static void order(String... runs) {
        for (String run : runs) {
            Edges.edge("Terms", "Each act tells its ERRORS in the order in which they are asked;", run);
        }
    }

    /** Where two would hold, the first is told. */
    private static void inOrderOfItems() {
        order(FULL_OF_ITEMS + "item(70,5)=BEYOND item(-1,5)=BEYOND item(5,1000)=BEYOND item(5,-1)=BEYOND item(0,5)=FULL",
            BUSY + "as(0,7)=BEYOND as(0,-1)=BEYOND as(8,1)=BEYOND as(0,1)=KIND",
            BUSY + "shift(1,8)=BEYOND shift(1,-1)=BEYOND shift(5,8)=BEYOND shift(8,0)=BEYOND shift(1,0)=STATE shift(5,0)=STATE",
            BUSY + "7*feed(0x31,8) feed(0x31,0)=BEYOND feed(0x31,9)=BEYOND feed(0x31,-1)=BEYOND feed(0x31,8)=FULL",
            BUSY + "')' text(2)=BEYOND text(-1)=BEYOND text(0)=-14");
    }

    private static void inOrderOnAir() {
        String none = BUSY + "drop(0) drop(2) drop(3) drop(4) drop(6) drop(7) ";
        order(none + "air(-1)=STATE air(1000)=STATE clock(1,9999) air(5)=STATE",
            LATE + "air(2000)=BEYOND air(-1)=BEYOND air(250)=BEYOND air(252)=BEYOND air(251)=STATE",
            LATE + "breaks(0)=BEYOND breaks(301)=BEYOND breaks(1)=STATE breaks(300)=STATE",
            BUSY + "drop(8)=BEYOND drop(-1)=BEYOND drop(1)=STATE drop(5)=STATE",
            none + "loose(0)=BEYOND loose(10)=BEYOND loose(9)=0",
            LATE + "loose(0)=BEYOND loose(10)=BEYOND");
    }

    private static void inOrderOfThought() {
        order(OVER + "plan(8)=BEYOND plan(-1)=BEYOND plan(1)=STATE plan(5)=STATE plan(0)=NONE",
            OVER + "begins(8,0)=BEYOND begins(0,2)=BEYOND begins(1,2)=BEYOND begins(5,-1)=BEYOND begins(1,0)=STATE begins(5,1)=STATE begins(0,0)=NONE",
            OVER + "drops(2)=BEYOND drops(-1)=BEYOND drops(0)=NONE drops(1)=NONE",
            FULL_OF_ITEMS + "row(-2)=BEYOND row(6)=BEYOND row(-1)=STATE row(0)=STATE row(5)=STATE drop(0) drop(2) row(6)=BEYOND row(5)=NONE row(4)=8",
            BUSY + "sums(4,2)=BEYOND sums(3,2)=BEYOND sums(0,2)=BEYOND sums(0,-1)=BEYOND sums(3,1)=NONE sums(0,1)=NONE put(2,0,1) sums(2,2)=BEYOND sums(2,1)=NONE",
            BUSY + "become(0,0) voice(8,3,1)=BEYOND voice(0,4,1)=BEYOND voice(0,-1,1)=BEYOND voice(0,3,1)=PARTED");
    }

    private static void inOrderOfSheets() {
        order(BUSY + "sheet(4,7,-1)=BEYOND sheet(4,8,-1)=BEYOND sheet(0,7,-1)=BEYOND sheet(0,8,-1)=STATE sheet(0,8,MIN)=STATE sheet(0,8,25)=BEYOND",
            BUSY + "put(4,-1,5)=BEYOND put(3,-1,5)=NONE put(3,24,5)=NONE put(0,3,5)=BEYOND put(0,-1,5)=BEYOND",
            // No such SHEET, one that is missing, unlike bits, no such numbers: each with the next.
            BUSY + "move(3,0,4,0,1)=BEYOND move(4,0,3,0,1)=BEYOND move(3,0,0,0,1)=NONE move(0,0,3,0,1)=NONE move(3,-1,0,0,1)=NONE",
            BUSY + "move(4,-1,0,0,-1)=BEYOND move(0,-1,1,0,1)=KIND move(1,0,2,1,1)=KIND move(0,0,1,0,-1)=KIND move(0,0,0,1,3)=BEYOND",
            BUSY + "truths(4)=BEYOND truths(3)=NONE judge(-1)=BEYOND judge(3)=NONE");
    }

    /** One of each ERROR of each call; the order in which they stand is that of the document. */
    private static void nothingChanges() {
        for (String refused : new String[] {
            "item(70,0)=BEYOND", "item(0,1000)=BEYOND", "itemIs(8,0)=BEYOND", "itemIs(0,7)=BEYOND", "become(8,0)=BEYOND", "become(0,70)=BEYOND",
            "as(8,0)=BEYOND", "as(0,7)=BEYOND", "as(0,1)=KIND", "truth(8,0)=BEYOND", "truth(0,1000)=BEYOND", "shift(8,0)=BEYOND",
            "shift(0,8)=BEYOND", "shift(1,3)=STATE", "shift(5,3)=STATE", "clock(3,0)=BEYOND", "clock(0,10000)=BEYOND", "clock(1,-1)=BEYOND",
            "clock(2,100)=BEYOND", "feed(0x31,9)=BEYOND", "text(2)=BEYOND", "untell(2)=BEYOND", "law(2,1,1,1)=BEYOND", "air(250)=BEYOND",
            "air(252)=BEYOND", "breaks(0)=BEYOND", "breaks(301)=BEYOND", "drop(8)=BEYOND", "drop(1)=STATE", "drop(5)=STATE", "loose(0)=BEYOND",
            "loose(10)=BEYOND", "plan(8)=BEYOND", "plan(1)=STATE", "begins(8,0)=BEYOND", "begins(0,2)=BEYOND", "begins(1,0)=STATE",
            "drops(2)=BEYOND", "row(6)=BEYOND", "row(-2)=BEYOND", "odds(2)=BEYOND", "sums(4,0)=BEYOND", "sums(2,2)=BEYOND", "sums(3,0)=NONE",
            "sums(0,0)=NONE", "voice(8,0,1)=BEYOND", "voice(0,4,1)=BEYOND", "voice(3,3,1)=PARTED", "body(-1)=NONE", "body(6)=NONE",
            "sheet(4,8,1)=BEYOND", "sheet(0,7,1)=BEYOND", "sheet(0,8,25)=BEYOND", "sheet(0,8,-1)=STATE", "put(4,0,1)=BEYOND", "put(3,0,1)=NONE",
            "put(0,3,1)=BEYOND", "move(4,0,0,0,1)=BEYOND", "move(0,0,3,0,1)=NONE", "move(0,0,1,0,1)=KIND", "move(0,0,0,1,3)=BEYOND",
            "truths(4)=BEYOND", "truths(3)=NONE", "judge(4)=BEYOND", "judge(3)=NONE", "count(12)=BEYOND", "told(0)=BEYOND", "told(7)=BEYOND",
        }) {
            changesNothing(BUSY + refused);
        }
        changesNothing(FULL_OF_ITEMS + "item(0,0)=FULL row(-1)=STATE");
        changesNothing(FULL_OF_ITEMS + "7*feed(0x31,8) feed(0x31,1)=FULL");
        changesNothing(BUSY + "21*tell(1) tell(2)=FULL");
        changesNothing(LATE + "air(251)=STATE breaks(1)=STATE tuned()=STATE spare()=NONE plan(0)=NONE begins(0,1)=NONE");
        changesNothing(OVER + "tuned()=STATE spare()=NONE plan(0)=NONE begins(0,0)=NONE drops(0)=NONE drops(1)=NONE");
        changesNothing(BUSY + "put(2,0,1) sums(2,1)=NONE drop(0) row(5)=NONE");
        changesNothing("item(0,1) restore()=NONE air(2)=BEYOND air(1) air(1)=STATE row(0)=NONE");
    }

    private static void changesNothing(String run) {
        Edges.edge("Terms", "one that answers an ERROR changes nothing but what told() tells, or where told.", run);
    }

    private static void quotients() {
        Edges.edge("Terms", "Quotients are cut toward 0.",
            "'k/l=p' text(0) law(0,-7,2,-3)=1 law(0,7,-2,-3)=1 law(0,-1,2,0)=1 item(2,1) voice(0,3,-7)=-3 voice(0,3,7)=3 voice(0,3,-1)=0",
            "become(0,30) voice(0,2,-7)=-6 voice(0,2,-1)=0");
    }
}
