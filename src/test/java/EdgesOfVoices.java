/** The voices of Terms 4 and promises 29 and 30, at their edges. */
final class EdgesOfVoices {
    private EdgesOfVoices() {
    }

    static void all() {
        voices();
        bodiesOfAnItem();
        bodiesUnderIt();
        nextAbove();
        trace();
        voice();
        body();
    }

    private static void voices() {
        Edges.edge("Terms", "VOICES of a Item, with a number x (ints that wrap); k is the number, m as told:"
            + " 0 reads, 1 adlibs, 2 winds, 3 parts.",
            "item(9,1) voice(0,0,7)=7 body(0)=10 voice(0,1,7)=14 body(0)=11 voice(0,2,7)=5 body(0)=12 voice(0,3,7)=0 body(0)=13",
            "become(0,0) voice(0,2,7)=14 become(0,1) voice(0,3,7)=7 new 9*item(3,1) voice(8,0,7)=15 voice(8,1,7)=30 voice(8,2,7)=27",
            "voice(8,3,17)=-3");
    }

    private static void bodiesOfAnItem() {
        Edges.edge("Terms", "BODIES: Item: 10 reads: x + k.",
            "item(0,1) item(0,1) voice(0,0,MAX)=MAX voice(0,0,MIN)=MIN voice(1,0,MAX)=MIN voice(1,0,-1)=0 voice(1,0,MIN)=-2147483647");
        Edges.edge("Terms", "11 adlibs: reads(x) * 2.",
            "item(0,1) voice(0,1,MAX)=-2 voice(0,1,MIN)=0 voice(0,1,1073741824)=MIN voice(0,1,-1073741824)=MIN voice(0,1,1073741823)=2147483646");
        Edges.edge("Terms", "12 winds: adlibs(x) - m.",
            "item(9,1) voice(0,2,0)=-9 voice(0,2,MIN)=-9 voice(0,2,1073741824)=2147483639 become(0,0) voice(0,2,1073741824)=MIN");
        Edges.edge("Terms", "13 parts: x by (m - k), cut (PARTED if that is 0; that is all that voice() answers then).",
            "item(9,1) voice(0,3,19)=2 voice(0,3,-19)=-2 voice(0,3,8)=0 voice(0,3,-8)=0 voice(0,3,9)=1 voice(0,3,MIN)=-238609294 become(0,0)",
            "voice(0,3,5)=PARTED voice(0,3,0)=PARTED voice(0,3,MIN)=PARTED become(0,1) voice(0,3,MIN)=MIN item(0,1) voice(1,3,8)=-8",
            "voice(1,3,MIN)=MIN voice(1,3,MAX)=-2147483647 become(1,1) voice(1,3,8)=PARTED become(1,2) voice(1,3,8)=8",
            "new 9*item(0,1) voice(8,3,17)=-2 voice(8,3,7)=0 become(8,8) voice(8,3,7)=PARTED become(8,9) voice(8,3,7)=7 become(8,7) voice(8,3,7)=-7",
            // In the SPORT's body nothing is added to it, and nothing else begins.
            "new item(10,1) item(41,1) voice(0,3,9)=PARTED voice(1,3,9)=PARTED become(1,31) voice(1,3,9)=PARTED become(1,21) voice(1,3,9)=PARTED");
    }

    private static void bodiesUnderIt() {
        Edges.edge("Terms", "Sport: 20 reads: super.reads(x) - 4.",
            "item(10,1) voice(0,0,4)=0 voice(0,0,0)=-4 voice(0,0,MIN)=2147483644 item(10,1) voice(1,0,3)=0 voice(1,0,MAX)=2147483644");
        Edges.edge("Terms", "21 parts: super.parts(x) + adlibs(1).",
            "item(11,1) voice(0,3,7)=1 voice(0,3,6)=0 voice(0,3,MIN)=2147483642 become(0,41) voice(0,3,7)=-11 become(0,49) voice(0,3,-19)=-20");
        Edges.edge("Terms", "Weather: 30 adlibs: 0 - super.adlibs(x).",
            "item(20,1) voice(0,1,7)=-14 voice(0,1,0)=0 voice(0,1,1073741824)=MIN voice(0,1,MAX)=2 voice(0,2,7)=-14");
        Edges.edge("Terms", "Live: 40 winds: super.winds(x / 2).",
            "item(30,1) voice(0,2,7)=6 voice(0,2,-7)=-6 voice(0,2,1)=0 voice(0,2,-1)=0 voice(0,2,MIN)=MIN voice(0,2,MAX)=2147483646");
        Edges.edge("Terms", "Duck: 50 reads: super.reads(x) * 3.",
            "item(40,1) voice(0,0,4)=0 voice(0,0,5)=3 voice(0,0,MAX)=2147483633 voice(0,0,MIN)=2147483636");
        Edges.edge("Terms", "51 winds: super.winds(x) ^ k.",
            "item(40,1) voice(0,2,5)=6 item(40,1) voice(1,2,5)=13 voice(1,2,0)=-17 item(49,1) voice(2,2,5)=11",
            "new 8*item(0,1) item(49,1) voice(8,2,5)=37 voice(8,2,-5)=-7");
        Edges.edge("Terms", "Breeze: 60 adlibs: super.adlibs(x + 1).",
            "item(50,1) voice(0,1,7)=-16 voice(0,1,-1)=0 voice(0,1,MAX)=0 voice(0,1,1073741823)=MIN voice(0,2,7)=-16");
        Edges.edge("Terms", "Lisbon: 70 reads: 9.",
            "item(60,1) item(60,1) voice(0,0,0)=9 voice(1,0,MIN)=9 voice(1,0,MAX)=9");
        Edges.edge("Terms", "71 adlibs: super.adlibs(x) + m.",
            "item(60,1) voice(0,1,7)=18 become(0,69) voice(0,1,MIN)=27 voice(0,2,7)=18");
    }

    private static void nextAbove() {
        Edges.edge("Terms", "reads(..) is the BODY of its KIND, or of the next KIND above that has one;",
            "item(21,1) voice(0,0,7)=7 body(0)=10 become(0,51) voice(0,0,7)=7 body(0)=10 voice(0,3,7)=7 body(0)=13 become(0,61) voice(0,3,7)=7",
            "body(0)=13 voice(0,2,7)=18 body(0)=40 become(0,11) voice(0,1,7)=6 body(0)=11 body(1)=20 become(0,41) voice(0,3,7)=-11 body(0)=21");
        Edges.edge("Terms", "super.reads(..) that from the KIND above the BODY's on.",
            // The BODY's KIND, not that of the ITEM: for a DUCK super of 20 is 10, of 50 it is 20.
            "item(41,1) voice(0,0,7)=9 count(10)=3 body(0)=50 body(1)=20 body(2)=10 become(0,51) voice(0,1,7)=-16 count(10)=4 body(0)=60",
            "body(1)=30 body(2)=11 body(3)=10 become(0,61) voice(0,2,7)=18 count(10)=5 body(0)=40 body(1)=12 body(2)=71 body(3)=11 body(4)=70");
    }

    private static void trace() {
        Edges.edge("Terms", "THE TRACE: the numbers of BODIES of the latest voice(), as they began (what stands left is worked out first), the first 30.",
            "count(10)=0 item(41,1) voice(0,3,7)=-11 count(10)=6 body(0)=21 body(1)=13 body(2)=11 body(3)=50 body(4)=20 body(5)=10 body(6)=NONE",
            "voice(0,0,7)=9 count(10)=3 body(3)=NONE become(0,0) voice(0,0,7)=7 count(10)=1 body(0)=10 body(1)=NONE",
            // The latest voice() is one that was PARTED, too: what began until then. One that was refused is none.
            "voice(0,3,7)=PARTED count(10)=1 body(0)=13 voice(0,4,7)=BEYOND count(10)=1 body(0)=13 voice(1,0,7)=BEYOND body(0)=13",
            "become(0,10) voice(0,3,7)=PARTED count(10)=2 body(0)=21 body(1)=13 body(2)=NONE voice(0,2,7)=6 count(10)=4 body(0)=12",
            "body(1)=11 body(2)=20 body(3)=10");
    }

    private static void voice() {
        Edges.edge("29", "A VOICE of an ITEM: any number.",
            "item(1,1) voice(0,0,-1000000001)=-1000000001 voice(0,0,-1000000006)=-1000000006 voice(0,3,-1000000006)=-1000000006 told(1)=0",
            "told(6)=0 voice(0,0,MIN)=MIN voice(0,0,MAX)=MAX drop(0) voice(0,0,5)=5 item(0,1) air(1) voice(1,0,5)=6");
        Edges.edge("29", "BEYOND.",
            "voice(0,0,0)=BEYOND item(1,1) voice(0,1,5) voice(-1,0,0)=BEYOND voice(1,0,0)=BEYOND voice(MIN,0,0)=BEYOND voice(MAX,0,0)=BEYOND",
            "voice(0,-1,0)=BEYOND voice(0,4,0)=BEYOND voice(0,MIN,0)=BEYOND voice(0,MAX,0)=BEYOND count(10)=2 become(0,0) voice(1,3,0)=BEYOND",
            "voice(0,4,0)=BEYOND new 9*item(0,1) voice(8,3,9)=-1 voice(9,3,9)=BEYOND");
        Edges.edge("29", "PARTED.",
            "item(0,1) voice(0,3,1)=PARTED voice(0,2,1)=2 item(12,1) voice(1,3,1)=-3 become(1,11) voice(1,3,1)=PARTED told(6)=2 drop(0) voice(0,3,1)=PARTED");
    }

    private static void body() {
        Edges.edge("30", "THE TRACE's i-th.",
            "item(1,1) voice(0,2,7) body(0)=12 body(1)=11 body(2)=10 image() voice(0,3,7) restore() body(0)=13 body(1)=NONE");
        Edges.edge("30", "NONE: there is none such.",
            "body(0)=NONE body(-1)=NONE body(MIN)=NONE body(MAX)=NONE item(1,1) body(0)=NONE voice(0,1,7) body(1)=10 body(2)=NONE body(-1)=NONE",
            "body(29)=NONE body(30)=NONE body(31)=NONE body(MIN)=NONE body(MAX)=NONE");
    }
}
