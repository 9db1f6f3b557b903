import java.util.List;

/** What would be, of Terms 3, and promises 19 to 28, at their edges. */
final class EdgesOfThought {
    private static final String FOUR = "item(14,120) item(20,0) item(42,50) item(30,60)";

    private EdgesOfThought() {
    }

    static void all() {
        onlyThought();
        over();
        fits();
        spare();
        tuned();
        plan();
        begins();
        drops();
        dropsOfSeveral();
        row();
        rowErrors();
        odds();
        oddsOfMany();
        sums();
        sumsErrors();
    }

    private static void onlyThought() {
        Edges.about("Terms", "(All this is only thought.)");
        OffOnTheSecond thinks = busy();
        think(thinks);
        List<String> changed = Probe.of(thinks, true);
        List<String> same = Probe.of(busy(), true);
        for (int i = 0; i < same.size(); i++) {
            Edges.due(changed.get(i) + " after all thoughts, without " + same.get(i), changed.get(i).equals(same.get(i)) ? 1 : 0, 1);
        }
    }

    private static OffOnTheSecond busy() {
        OffOnTheSecond x = Checks.with(33, 80, 14, 120, 20, 60, 61, 9, 0, 7);
        Checks.text(x, 0, "l+k");
        Checks.text(x, 1, "i*p-k");
        Checks.feed(x, "k+1");
        x.shift(3, 0);
        x.drop(4);
        x.sheet(0, 16, 1);
        x.put(0, 0, 80);
        x.clock(0, 300);
        x.tell(80);
        x.voice(1, 3, 5);
        x.image();
        x.clock(1, 5);
        return x;
    }

    private static void think(OffOnTheSecond x) {
        x.over();
        x.fits();
        x.spare();
        x.tuned();
        for (int i = 0; i < 5; i++) {
            x.plan(i);
            x.begins(i, 0);
            x.begins(i, 1);
            x.row(i - 1);
        }
        x.drops(0);
        x.drops(1);
        x.odds(0);
        x.odds(1);
        x.sums(0, 0);
        x.sums(0, 1);
        x.law(0, 1, 2, 3);
    }

    private static void over() {
        Edges.edge("Terms", "OVER: NOW and TRUE of all that are LEFT, less END.",
            "over()=-600 item(20,50) item(33,80) over()=-470 drop(0) over()=-520 air(85)=85 over()=-515 clock(1,600) over()=0",
            "clock(1,601) over()=1 anew() over()=-520");
        Edges.edge("19", "OVER (any number).",
            "9*item(69,999) clock(1,9999) clock(0,0) over()=18990 new clock(0,9999) over()=-9999 new clock(0,0) over()=0");
    }

    private static void fits() {
        Edges.edge("20", "Whether it FITS all that are LEFT: 1, 0.",
            "fits()=0 clock(0,0) fits()=1 clock(0,1) fits()=0 clock(1,1) fits()=1 clock(1,2) fits()=0",
            "new " + FOUR + " clock(0,129) fits()=0 clock(0,130) fits()=1 clock(0,320) fits()=1 clock(0,321) fits()=0 clock(1,1) fits()=1",
            "drop(3) clock(0,261) fits()=1 clock(0,262) fits()=0 clock(1,0) air(40) clock(0,70) fits()=1 clock(0,69) fits()=0");
    }

    private static void spare() {
        Edges.edge("21", "How many seconds more news may take now, so that those LEFT still have their LEAST.",
            FOUR + " spare()=470 clock(0,131) spare()=1 clock(0,130) spare()=0 drop(3) spare()=60 air(120) spare()=-1000000002",
            "new spare()=600 clock(0,0) spare()=0 clock(0,9999) spare()=9999 clock(1,9999) spare()=0",
            "new item(0,5) clock(0,6) breaks(1)=1 spare()=0 air(5)=6 fits()=1");
        Edges.edge("21", "NONE: they haven't now.",
            FOUR + " clock(0,129) spare()=NONE clock(0,0) spare()=NONE new clock(0,0) clock(1,1) spare()=NONE clock(1,9999) spare()=NONE",
            "new 9*item(69,999) clock(0,9431) spare()=NONE clock(0,9432) spare()=0");
    }

    private static void tuned() {
        Edges.edge("22", "In how many seconds THE TUNE must begin: END less TUNE less NOW.",
            "tuned()=570 clock(1,569) tuned()=1 clock(1,570) tuned()=0 clock(2,0) tuned()=30 clock(0,9999) clock(1,0) tuned()=9999",
            "clock(2,99) tuned()=9900 item(0,5) tuned()=9900");
        Edges.edge("22", "STATE: that is below 0.",
            "clock(1,571) tuned()=STATE clock(2,29) tuned()=0 clock(2,30) tuned()=STATE clock(0,0) clock(1,9999) clock(2,99) tuned()=STATE",
            "new clock(0,0) tuned()=STATE clock(2,0) tuned()=0 clock(2,1) tuned()=STATE");
    }

    private static void plan() {
        Edges.edge("Terms", "PLAN: if it FITS all that are LEFT: in THE ORDER each takes as many seconds as it may, MOST at most,"
            + " so that those behind it still have their LEAST.",
            FOUR + " clock(0,130) plan(0)=40 plan(1)=30 plan(2)=0 plan(3)=60 clock(0,131) plan(0)=41 plan(1)=30 plan(2)=0 plan(3)=60",
            "clock(0,210) plan(0)=120 plan(1)=30 clock(0,211) plan(0)=120 plan(1)=31 plan(2)=0 clock(0,270) plan(1)=90 plan(2)=0",
            "clock(0,271) plan(1)=90 plan(2)=1 plan(3)=60 clock(0,320) plan(0)=120 plan(1)=90 plan(2)=50 plan(3)=60",
            "shift(2,0) clock(0,131) plan(2)=1 plan(0)=40 plan(1)=30 plan(3)=60 clock(0,181) plan(2)=50 plan(0)=41 clock(1,50) plan(0)=40",
            "plan(2)=1 drop(0) plan(2)=41 clock(0,150) plan(2)=10 plan(1)=30 air(10) plan(1)=30 clock(0,151) plan(1)=31 plan(3)=60");
        Edges.edge("23", "PLAN: the seconds of an ITEM.",
            "item(20,0) clock(0,30) plan(0)=30 clock(0,90) plan(0)=90 clock(0,31) plan(0)=31 new item(40,0) clock(0,0) plan(0)=0",
            "new 9*item(40,1) clock(0,8) plan(0)=1 plan(7)=1 plan(8)=0 clock(0,9) plan(8)=1");
        Edges.edge("23", "BEYOND.",
            "plan(0)=BEYOND item(20,0) plan(-1)=BEYOND plan(1)=BEYOND plan(MIN)=BEYOND plan(MAX)=BEYOND clock(0,0) plan(1)=BEYOND");
        Edges.edge("23", "STATE: it isn't LEFT.",
            FOUR + " drop(1) clock(0,100) plan(1)=STATE air(40) plan(0)=STATE plan(2)=0 clock(0,0) plan(1)=STATE plan(0)=STATE plan(4)=BEYOND");
        Edges.edge("23", "NONE: it doesn't FIT.",
            FOUR + " clock(0,129) plan(0)=NONE plan(3)=NONE clock(0,321) plan(0)=NONE plan(3)=NONE clock(0,320) plan(0)=120 clock(1,191) plan(0)=NONE",
            "clock(1,190) plan(0)=40");
    }

    private static void begins() {
        Edges.edge("Terms", "BEGINS: of all ways in which those that are LEFT, in THE ORDER, each within LEAST and MOST, end on END:"
            + " the earliest, the latest second at which an ITEM begins.",
            FOUR + " clock(0,130) begins(0,0)=0 begins(0,1)=0 begins(1,0)=40 begins(1,1)=40 begins(2,0)=70 begins(2,1)=70 begins(3,0)=70",
            "begins(3,1)=70 clock(0,320) begins(0,0)=0 begins(0,1)=0 begins(1,0)=120 begins(1,1)=120 begins(2,0)=210 begins(2,1)=210",
            "begins(3,0)=260 begins(3,1)=260 clock(0,131) begins(0,0)=0 begins(0,1)=0 begins(1,0)=40 begins(1,1)=41 begins(2,0)=70",
            "begins(2,1)=71 begins(3,0)=71 begins(3,1)=71 clock(0,319) begins(1,0)=119 begins(1,1)=120 begins(2,0)=209 begins(2,1)=210",
            "begins(3,0)=259 begins(3,1)=259 clock(0,200) clock(1,20) begins(0,0)=20 begins(0,1)=20 begins(1,0)=60 begins(1,1)=110",
            "begins(2,0)=90 begins(2,1)=140 begins(3,0)=140 begins(3,1)=140 shift(3,0) begins(3,1)=20 begins(0,0)=80 begins(2,0)=150",
            "begins(2,1)=200");
        Edges.edge("24", "BEGINS: what 0 the earliest, 1 the latest.",
            "item(20,0) clock(0,60) begins(0,0)=0 begins(0,1)=0 clock(0,9999) clock(1,9969) begins(0,0)=9969 begins(0,1)=9969",
            "item(40,30) clock(1,9939) begins(1,0)=9969 begins(1,1)=9999 drop(0) clock(1,9980) begins(1,0)=9980 begins(1,1)=9980");
        Edges.edge("24", "BEYOND.",
            "begins(0,0)=BEYOND item(20,0) clock(0,60) begins(-1,0)=BEYOND begins(1,0)=BEYOND begins(MIN,0)=BEYOND begins(MAX,0)=BEYOND",
            "begins(0,-1)=BEYOND begins(0,2)=BEYOND begins(0,MIN)=BEYOND begins(0,MAX)=BEYOND clock(0,0) begins(0,2)=BEYOND begins(1,0)=BEYOND",
            "drop(0) begins(0,2)=BEYOND begins(0,-1)=BEYOND");
        Edges.edge("24", "STATE: it isn't LEFT.",
            FOUR + " drop(1) clock(0,100) begins(1,0)=STATE begins(1,1)=STATE air(40) begins(0,0)=STATE begins(2,0)=40 clock(0,0)",
            "begins(1,0)=STATE begins(0,1)=STATE begins(0,2)=BEYOND");
        Edges.edge("24", "NONE: it doesn't FIT.",
            FOUR + " clock(0,129) begins(0,0)=NONE begins(3,1)=NONE clock(0,321) begins(0,1)=NONE begins(3,0)=NONE clock(0,320) begins(0,0)=0");
    }

    private static void drops() {
        Edges.edge("Terms", "DROPS: the fewest ITEMS of those LEFT that must be dropped so that it FITS the others;",
            "clock(0,0) drops(0)=0 drops(1)=0 9*item(0,1) drops(0)=9 drops(1)=511 clock(0,1) drops(0)=8 drops(1)=255 clock(0,8) drops(0)=1",
            "drops(1)=1 clock(0,9) drops(0)=0 drops(1)=0 clock(0,10) drops(0)=NONE drops(1)=NONE drop(8) clock(0,8) drops(0)=0 clock(0,7)",
            "drops(0)=1 drops(1)=1 drop(0) clock(0,6) drops(1)=2 air(1) clock(0,6) drops(0)=1 drops(1)=4",
            // One that is worth all goes ahead of two that are worth nothing: the fewest come first.
            "new item(0,100) item(20,0) item(20,0) clock(0,100) drops(0)=1 drops(1)=1 clock(0,60) drops(1)=1 clock(0,59) drops(0)=2",
            "drops(1)=3 clock(0,30) drops(1)=3 clock(0,29) drops(0)=NONE clock(0,0) drops(1)=7",
            // Too much MOST is no reason to drop, too little can not be mended by it.
            "new item(20,0) item(40,10) clock(0,100) drops(0)=0 clock(0,101) drops(0)=NONE clock(0,30) drops(0)=0 clock(0,29) drops(0)=NONE",
            "clock(0,10) drops(0)=1 drops(1)=1 clock(0,0) drops(0)=1 drops(1)=1");
        Edges.edge("25", "DROPS: what 0 how many, 1 the set.",
            "item(0,5) item(0,6) clock(0,11) drops(0)=0 drops(1)=0 clock(0,6) drops(0)=1 drops(1)=1 clock(0,5) drops(1)=2 clock(0,0) drops(0)=2",
            "drops(1)=3 new 9*item(0,5) clock(0,5) drops(1)=255 truth(8,6) drops(1)=383 clock(0,6) drops(1)=255");
        Edges.edge("25", "BEYOND.",
            "drops(-1)=BEYOND drops(2)=BEYOND drops(MIN)=BEYOND drops(MAX)=BEYOND item(0,5) clock(0,4) drops(2)=BEYOND drops(-1)=BEYOND",
            "clock(0,5) drops(2)=BEYOND drops(0)=0");
        Edges.edge("25", "NONE: by no set.",
            "drops(0)=NONE drops(1)=NONE item(0,5) clock(0,4) drops(0)=NONE drops(1)=NONE clock(0,6) drops(0)=NONE clock(0,5) drops(0)=0",
            "clock(0,0) drops(0)=1 clock(1,1) drops(0)=NONE drops(1)=NONE drop(0) drops(0)=NONE clock(1,0) drops(0)=0");
    }

    private static void dropsOfSeveral() {
        Edges.edge("Terms", "of several sets that by which these are WORTH most together, of these the least (bits).",
            "item(20,50) item(20,60) item(20,55) clock(0,60) drops(1)=1 clock(0,30) drops(0)=2 drops(1)=5 truth(0,60) clock(0,60) drops(1)=4",
            "truth(2,60) drops(1)=1 clock(0,30) drops(1)=3 truth(2,61) drops(1)=3 truth(1,62) drops(1)=5 truth(0,63) drops(1)=6",
            // WORTH is held within 0 .. 999: 5000 is no more than 999, and nothing is below 0.
            "new item(20,1) item(20,2) clock(0,30) 'l*5000' text(0) drops(1)=1 '0-l' text(0) drops(1)=1 'l*500' text(0) drops(1)=1",
            "'2000-l' text(0) drops(1)=1 '1000-l*l' text(0) drops(1)=2",
            "new 9*item(20,999) clock(0,30) drops(0)=8 drops(1)=255 clock(0,240) drops(0)=1 drops(1)=1");
    }

    private static void row() {
        Edges.edge("Terms", "ROW: of all rows of those LEFT (6 at most) that which is LIKED most, all ITEMS at their places together;",
            "6*item(0,1) row(-1)=55 row(0)=0 row(1)=1 row(2)=2 row(3)=3 row(4)=4 row(5)=5 '0-i*p' text(1) row(-1)=-20 row(0)=5 row(5)=0",
            "'99' text(1) row(-1)=594 '0-99' text(1) row(-1)=-594 '5000' text(1) row(-1)=594 '0-5000' text(1) row(-1)=-594",
            "'(i=5&p=0)+(i=0&p=5)' text(1) row(-1)=2 row(0)=5 row(5)=0 row(1)=1",
            "new item(0,1) item(0,1) item(0,1) shift(0,2) row(0)=0 row(2)=2 drop(1) row(-1)=2 row(0)=0 row(1)=2 air(1) row(-1)=0 row(0)=0");
        Edges.edge("Terms", "of several the first by numbers of ITEMS.",
            "6*item(0,1) '7' text(1) row(-1)=42 row(0)=0 row(1)=1 row(2)=2 row(3)=3 row(4)=4 row(5)=5 drop(2) row(-1)=35 row(2)=3 row(4)=5",
            "'(p=4)*(i=0)' text(1) row(0)=1 row(1)=3 row(2)=4 row(3)=5 row(4)=0 '(p=1)*(i>3)' text(1) row(0)=0 row(1)=4 row(2)=1 row(3)=3",
            "row(4)=5 '(p=0)*(i>0)' text(1) row(0)=1 row(1)=0");
    }

    private static void rowErrors() {
        Edges.edge("26", "ROW: what -1 how much it is LIKED (any number), 0 .. 5 the ITEM there.",
            "row(-1)=0 item(0,1) row(-1)=0 row(0)=0 item(0,1) row(-1)=1 row(1)=1 'i-p' text(1) row(-1)=0 '0-1' text(1) row(-1)=-2",
            "4*item(0,1) row(5)=5 row(-1)=-6");
        Edges.edge("26", "BEYOND.",
            "row(-2)=BEYOND row(6)=BEYOND row(MIN)=BEYOND row(MAX)=BEYOND 7*item(0,1) row(-2)=BEYOND row(6)=BEYOND row(MAX)=BEYOND");
        Edges.edge("26", "STATE: more than 6 are LEFT.",
            "6*item(0,1) row(-1)=55 row(5)=5 item(0,1) row(-1)=STATE row(0)=STATE row(5)=STATE drop(3) row(-1)=67 row(3)=4 2*item(0,1)",
            "row(-1)=STATE air(1) row(-1)=STATE air(1) row(-1)=100 anew() row(-1)=STATE");
        Edges.edge("26", "NONE: there is no such place in it.",
            "row(0)=NONE row(5)=NONE item(0,1) row(0)=0 row(1)=NONE row(5)=NONE 4*item(0,1) row(4)=4 row(5)=NONE item(0,1) row(5)=5 drop(0)",
            "row(5)=NONE row(4)=5 drop(1) drop(2) drop(3) drop(4) row(0)=5 row(1)=NONE air(1) row(0)=NONE row(-1)=0");
    }

    private static void odds() {
        Edges.edge("Terms", "ODDS: each LIVE one that is LEFT (LISBON, too) takes TRUE and 0, 1, .. m seconds more, each just as likely:"
            + " that what there is then for the others FITS them:",
            "item(39,80) clock(0,79) odds(0)=0 odds(1)=1 clock(0,80) odds(0)=1 odds(1)=10 clock(0,89) odds(0)=1 odds(1)=10 clock(0,90) odds(0)=0",
            "become(0,69) clock(0,79) odds(0)=0 clock(0,80) odds(0)=1 odds(1)=10 clock(0,89) odds(1)=10 clock(0,90) odds(0)=0 odds(1)=1",
            "become(0,30) clock(0,80) odds(0)=1 odds(1)=1 clock(0,81) odds(0)=0",
            // The others are there for what is left: 30 to 90 for the WEATHER.
            "new item(39,80) item(20,0) clock(0,109) odds(0)=0 clock(0,110) odds(0)=1 odds(1)=10 clock(0,118) odds(0)=9 odds(1)=10 clock(0,119)",
            "odds(0)=1 odds(1)=1 clock(0,170) odds(0)=1 odds(1)=1 clock(0,171) odds(0)=9 odds(1)=10 clock(0,179) odds(0)=1 odds(1)=10 clock(0,180)",
            "odds(0)=0 odds(1)=1 clock(1,1) odds(0)=1 odds(1)=10 drop(0) odds(0)=0 odds(1)=1 clock(0,91) odds(0)=1 odds(1)=1");
        Edges.edge("Terms", "a fraction in lowest terms (0 is 0 by 1).",
            "odds(0)=0 odds(1)=1 clock(0,0) odds(0)=1 odds(1)=1 item(33,0) item(20,0) clock(0,31) odds(0)=1 odds(1)=2 clock(0,32) odds(0)=3",
            "odds(1)=4 clock(0,33) odds(0)=1 odds(1)=1 clock(0,29) odds(0)=0 odds(1)=1 become(0,35) clock(0,31) odds(0)=1 odds(1)=3 clock(0,32)",
            "odds(0)=1 odds(1)=2 clock(0,33) odds(0)=2 odds(1)=3 clock(0,34) odds(0)=5 odds(1)=6");
        Edges.edge("27", "ODDS: part 0 above, 1 below the line.",
            "item(0,600) odds(0)=1 odds(1)=1 truth(0,599) odds(0)=0 odds(1)=1 become(0,31) odds(0)=1 odds(1)=2 truth(0,600) odds(0)=1 odds(1)=2");
        Edges.edge("27", "BEYOND.",
            "odds(-1)=BEYOND odds(2)=BEYOND odds(MIN)=BEYOND odds(MAX)=BEYOND item(39,5) odds(2)=BEYOND");
    }

    private static void oddsOfMany() {
        Edges.edge("27", "ODDS: part 0 above, 1 below the line.",
            "9*item(39,0) clock(0,0) odds(0)=1 odds(1)=1000000000 clock(0,1) odds(0)=9 odds(1)=1000000000 clock(0,2) odds(0)=9 odds(1)=200000000",
            "clock(0,80) odds(0)=9 odds(1)=1000000000 clock(0,81) odds(0)=1 odds(1)=1000000000 clock(0,82) odds(0)=0 odds(1)=1",
            "new 9*item(69,999) clock(0,8991) odds(0)=1 odds(1)=1000000000 clock(0,9072) odds(1)=1000000000 clock(0,9073) odds(0)=0");
    }

    private static void sums() {
        Edges.edge("Terms", "SUMS: a SHEET of one number: how many sets of those LEFT there are whose TRUE are just so much together; the least.",
            "sheet(0,32,1) sums(0,0)=1 sums(0,1)=0 9*item(0,0) sums(0,0)=512 sums(0,1)=0 put(0,0,1) sums(0,0)=0 truth(8,1) sums(0,0)=256",
            "sums(0,1)=256 drop(8) sums(0,0)=0 put(0,0,0) sums(0,0)=256 sums(0,1)=0",
            "new 9*item(0,999) sheet(0,32,1) put(0,0,8991) sums(0,0)=1 sums(0,1)=511 put(0,0,8992) sums(0,0)=0 put(0,0,999) sums(0,0)=9",
            "sums(0,1)=1 put(0,0,-1) sums(0,0)=0 put(0,0,MIN) sums(0,0)=0 put(0,0,MAX) sums(0,0)=0 put(0,0,3996) sums(0,0)=126 sums(0,1)=15",
            "air(999) sums(0,0)=70 sums(0,1)=30");
        Edges.edge("28", "SUMS, by a SHEET: what 0 how many, 1 the least set.",
            "item(20,10) item(0,20) item(39,30) item(0,0) sheet(3,16,1) put(3,0,30) sums(3,0)=4 sums(3,1)=3 put(3,0,60) sums(3,0)=2 sums(3,1)=7",
            "drop(0) put(3,0,30) sums(3,0)=2 sums(3,1)=4 sheet(1,8,1) put(1,0,20) sums(1,0)=2 sums(1,1)=2");
    }

    private static void sumsErrors() {
        Edges.edge("28", "BEYOND.",
            "sums(-1,0)=BEYOND sums(4,0)=BEYOND sums(MIN,0)=BEYOND sums(MAX,0)=BEYOND sums(0,-1)=BEYOND sums(0,2)=BEYOND sums(0,MIN)=BEYOND",
            "sums(0,MAX)=BEYOND sheet(0,8,1) sums(0,2)=BEYOND sums(0,-1)=BEYOND put(0,0,1) sums(0,2)=BEYOND sheet(0,8,2) sums(0,2)=BEYOND");
        Edges.edge("28", "NONE: the SHEET is missing, hasn't one number; (what 1) there is none.",
            "sums(0,0)=NONE sums(0,1)=NONE sums(3,0)=NONE sheet(0,8,0) sums(0,0)=NONE sums(0,1)=NONE sheet(0,8,2) sums(0,0)=NONE",
            "sums(0,1)=NONE sheet(0,8,24) sums(0,0)=NONE sheet(0,8,1) sums(0,0)=1 sums(0,1)=0 put(0,0,1) sums(0,0)=0 sums(0,1)=NONE",
            "item(0,1) sums(0,0)=1 sums(0,1)=1 drop(0) sums(0,0)=0 sums(0,1)=NONE sheet(0,0,0) sums(0,0)=NONE sums(0,1)=NONE");
    }
}
