/** Promises 36 to 41, at their edges. */
final class EdgesOfImages {
    private EdgesOfImages() {
    }

    static void all() {
        image();
        restore();
        tell();
        check();
        count();
        told();
        calls();
    }

    private static void image() {
        Edges.edge("36", "All (but SHEETS, THE TRACE, what told() tells, and how often this was done) is kept as an IMAGE,"
            + " in place of one ahead: how often that was done.",
            "image()=1 item(0,5) clock(0,7) clock(1,8) clock(2,9) seed(4) 'k' tell(5) '9' text(0) restore()=0 count(0)=0 count(1)=0 count(2)=600",
            "count(3)=30 count(8)=0 count(9)=0 count(11)=1 untell(0)=0 image()=2 image()=3 restore()=0 image()=4",
            // All of it.
            "new item(35,5) item(41,6) item(0,7) shift(2,0) drop(1) air(7) clock(0,8) clock(2,9) seed(4) 'i' text(1) 'k+' tell(11) image()=1",
            "anew() become(0,0) truth(0,1) shift(0,0) drop(0) item(0,8) clock(0,1) clock(1,2) clock(2,3) seed(5) untell(1) text(0) check()",
            "'l' text(0) tell(1) tell(2) restore()=7 count(0)=3 itemIs(0,0)=3 itemIs(0,1)=5 itemIs(0,2)=5 itemIs(0,5)=1 itemIs(0,6)=0 itemIs(1,0)=4",
            "itemIs(1,6)=1 itemIs(2,5)=0 itemIs(2,6)=2 count(1)=7 count(2)=8 count(3)=9 count(8)=2 count(9)=1 count(11)=4 text(0)=-12 check()=1",
            "untell(0)=0 law(1,5,6,7)=5 untell(1)=1",
            // What is not in it.
            "new item(1,7) sheet(0,8,1) sheet(2,8,1) voice(0,0,1) image()=1 sheet(1,8,1) sheet(2,0,0) put(0,0,5) voice(0,1,1) drop(9)=BEYOND image()=2",
            "put(0,0,6) restore()=0 judge(1)=0 truths(2)=NONE truths(0)=1 itemIs(0,2)=6 count(10)=2 body(0)=11 told(1)=1 told(2)=1 image()=3",
            // In place of one ahead.
            "new item(0,5) image()=1 drop(0) item(0,6) image()=2 anew() drop(1) restore()=0 count(0)=2 itemIs(0,6)=1 itemIs(1,6)=0",
            // Full of all.
            "new 9*item(69,999) 7*feed(0x3131,8) feed(0x31,4) 24*tell(999) image()=1 drop(8) text(0) check() restore()=0 count(0)=9 count(4)=9 count(8)=60",
            "count(9)=24 item(0,1)=FULL tell(0)=FULL feed(0x31,1)=FULL check()=10");
    }

    private static void restore() {
        Edges.edge("37", "All is as the IMAGE has it, which stays: NOW.",
            "clock(1,9999) image() clock(1,5) restore()=9999 count(1)=9999 restore()=9999 clock(1,6) item(0,1) restore()=9999 count(0)=0",
            "item(0,2) drop(0) tell(2) 'k' text(0) restore()=9999 count(0)=0 count(9)=0 untell(0)=0 anew() restore()=9999 image()=2 clock(1,0)",
            "image()=3 clock(1,8) restore()=0",
            // What comes after it doesn't come to the IMAGE.
            "new item(0,1) item(0,2) 'k' text(0) tell(1) 'l' image() restore()=0 become(0,69) truth(1,9) shift(0,1) drop(0) check() tell(7) tell(8)",
            "'+1' text(0) restore()=0 itemIs(0,0)=0 itemIs(0,5)=0 itemIs(0,6)=0 itemIs(1,2)=2 count(9)=1 check()=0 law(0,5,6,7)=5 count(8)=1",
            "text(0)=1 law(0,5,6,7)=6");
        Edges.edge("37", "NONE: there is none.",
            "restore()=NONE item(0,1) restore()=NONE count(0)=1 image()=1 restore()=0 restore()=0");
    }

    private static void tell() {
        Edges.edge("38", "One more number waits: how many.",
            "tell(MIN)=1 tell(MAX)=2 tell(-1000000004)=3 count(9)=3 told(4)=0 tell(0)=4 check()=1 tell(0)=1");
        Edges.edge("38", "FULL: 24 wait.",
            "23*tell(0) tell(0)=24 tell(0)=FULL tell(5)=FULL count(9)=24 check()=1 count(9)=0 tell(0)=1 23*tell(0) tell(0)=FULL");
    }

    private static void check() {
        Edges.edge("39", "The numbers that wait (none do then) are TRUE of ITEMS 0, 1, ..: 0; else 1 and the place (from 0)"
            + " of the first that isn't so (or for which there is none).",
            "check()=0 tell(0) check()=1 count(9)=0 check()=0 item(0,10) item(0,20) check()=0 tell(10) check()=0 tell(10) tell(20) check()=0",
            "count(9)=0 tell(11) tell(20) check()=1 tell(10) tell(21) tell(7) check()=2 tell(10) tell(20) tell(0) check()=3 count(9)=0",
            "tell(20) tell(21) check()=1 itemIs(0,2)=10 itemIs(1,2)=20 told(1)=0 told(2)=0",
            // By their numbers, not by places, and of those that aren't LEFT, too.
            "shift(1,0) tell(10) tell(20) check()=0 drop(0) air(20) tell(10) tell(20) check()=0",
            "new 9*item(0,3) 9*tell(3) check()=0 9*tell(3) tell(3) check()=10 24*tell(3) check()=10 8*tell(3) tell(4) check()=9 24*tell(4) check()=1");
    }

    private static void count() {
        Edges.edge("40", "0 ITEMS, 1 NOW, 2 END, 3 TUNE, 4 how many are LEFT, 5 the one that is ON (-1: none is LEFT),"
            + " 6 LEAST of all that are LEFT together, 7 MOST likewise, 8 bytes of THE TAPE, 9 numbers that wait,"
            + " 10 BODIES in THE TRACE, 11 z (any number).",
            "count(0)=0 count(1)=0 count(2)=600 count(3)=30 count(4)=0 count(5)=-1 count(6)=0 count(7)=0 count(8)=0 count(9)=0 count(10)=0 count(11)=1",
            "9*item(69,999) clock(1,9999) clock(0,9998) clock(2,99) 7*feed(0x31,8) feed(0x31,4) 24*tell(1) voice(3,3,1) seed(-1000000001)",
            "count(0)=9 count(1)=9999 count(2)=9998 count(3)=99 count(4)=9 count(5)=0 count(6)=9432 count(7)=9675 count(8)=60 count(9)=24 count(10)=1",
            "count(11)=-1000000001 told(1)=0 drop(0) drop(4) count(0)=9 count(4)=7 count(5)=1 count(6)=7336 count(7)=7525 clock(1,0) air(1048)",
            "count(4)=6 count(5)=2 count(6)=6288 count(7)=6450 seed(MIN) count(11)=MIN seed(MAX) count(11)=MAX text(0) count(8)=0 check() count(9)=0",
            "drop(1)=STATE drop(2) drop(3) drop(5) drop(6) drop(7) drop(8)=0 count(4)=0 count(5)=-1 count(6)=0 count(7)=0 count(0)=9");
        Edges.edge("40", "BEYOND.",
            "count(-1)=BEYOND count(12)=BEYOND count(MIN)=BEYOND count(MAX)=BEYOND item(0,1) count(12)=BEYOND count(-1)=BEYOND");
    }

    private static void told() {
        Edges.edge("41", "How many acts have answered an ERROR LOW - k (k 1 .. 6);",
            "told(1)=0 told(6)=0 item(0,1) drop(1)=BEYOND told(1)=1 odds(2)=BEYOND told(1)=2 restore()=NONE told(2)=1 clock(1,9000) tuned()=STATE",
            "told(3)=1 breaks(1) as(0,1)=KIND told(5)=1 voice(0,3,1)=PARTED told(6)=1 24*tell(0) tell(0)=FULL told(4)=1 told(1)=2 told(2)=1 told(3)=1",
            "told(4)=1 told(5)=1 told(6)=1 anew() image() restore() told(1)=2 told(6)=1");
        Edges.edge("41", "BEYOND: another k (counted, too).",
            "told(0)=BEYOND told(1)=1 told(7)=BEYOND told(1)=2 told(-1)=BEYOND told(MIN)=BEYOND told(MAX)=BEYOND told(1)=5 told(2)=0 told(6)=0");
    }

    private static void calls() {
        Edges.about("What it is", "An object is used for at most 512 calls after it has been made;");
        OffOnTheSecond x = new OffOnTheSecond();
        for (int i = 0; i < 511; i++) {
            Edges.due("call " + i + ", told(7)", x.told(7), Checks.BEYOND);
        }
        Edges.due("the 512th, told(1)", x.told(1), 511);
        OffOnTheSecond y = new OffOnTheSecond();
        for (int i = 1; i < 512; i++) {
            Edges.due("image()", y.image(), i);
        }
        Edges.due("the 512th, image()", y.image(), 512);
    }
}
