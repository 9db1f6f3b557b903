/** Terms 2 and promises 9 to 12, at their edges. */
final class EdgesOfTexts {
    private static final String DIGITS = "0123456789";
    private static final String OPENING = "!(";
    private static final String COMPARING = "<=>";
    private static final String JOINING = "|&+-*/%";

    private EdgesOfTexts() {
    }

    static void all() {
        rules();
        numbersAndNames();
        open();
        ints();
        fault();
        everyNextByte();
        uses();
        feed();
        text();
        untell();
        law();
    }

    private static void rules() {
        Edges.edge("Terms", "T: A { | A }.",
            "'k|l|p' text(0)=1 law(0,0,0,0)=0 law(0,0,0,5)=1 law(0,5,0,0)=1 law(0,0,-5,0)=1 '|' text(0)=-10 'k|' text(0)=-12",
            "'k||l' text(0)=-12 'k|l&p' text(0)=1 law(0,1,0,0)=1 law(0,0,1,0)=0 law(0,0,1,1)=1",
            "new 'k|k|k|k|k|k|k|k|k|k|k|k|k|k|k|k|k|k|k|k|k|k|k|k|k|k|k|k|k|l' text(0)=1 law(0,0,1,0)=1 law(0,0,0,1)=0");
        Edges.edge("Terms", "A: B { & B }.",
            "'k&l&p' text(0)=1 law(0,1,-1,2)=1 law(0,0,1,1)=0 law(0,1,0,1)=0 law(0,1,1,0)=0 '&' text(0)=-10 'k&' text(0)=-12",
            "'k&&l' text(0)=-12 'k&l|p' text(0)=1 law(0,0,0,1)=1 law(0,1,1,0)=1 law(0,0,1,0)=0 'k&l=p' text(0)=1 law(0,2,0,0)=1");
        Edges.edge("Terms", "B: S, or S < S, S = S, S > S.",
            "'k<l' text(0)=1 law(0,1,2,0)=1 law(0,2,2,0)=0 law(0,3,2,0)=0 law(0,MIN,MAX,0)=1 law(0,MAX,MIN,0)=0",
            "'k=l' text(0)=1 law(0,1,2,0)=0 law(0,2,2,0)=1 law(0,3,2,0)=0 'k>l' text(0)=1 law(0,1,2,0)=0 law(0,2,2,0)=0",
            "law(0,3,2,0)=1 law(0,MIN,MAX,0)=0 law(0,MAX,MIN,0)=1 'k<l<p' text(0)=-13 'k=l>p' text(0)=-13 'k>l+1=p' text(0)=-15",
            "'k<l&k<p' text(0)=1 law(0,1,2,1)=0 law(0,1,2,2)=1 '(k<l)<p' text(0)=1 law(0,5,3,1)=1 law(0,3,5,1)=0",
            "'k<(l<p)' text(0)=1 law(0,0,1,2)=1 law(0,0,2,2)=0 'k+l=p' text(0)=1 law(0,1,2,3)=1 law(0,1,2,2)=0");
        Edges.edge("Terms", "S: P { + P, - P }.",
            "'k-l-p' text(0)=1 law(0,20,5,3)=12 'k-l+p' text(0)=1 law(0,20,5,3)=18 'k+l*p' text(0)=1 law(0,1,2,3)=7",
            "'-k' text(0)=-10 '+k' text(0)=-10 'k+-l' text(0)=-12 'k-' text(0)=-12");
        Edges.edge("Terms", "P: Q { * Q, / Q, % Q }.",
            "'k/l/p' text(0)=1 law(0,100,10,3)=3 'k*l/p' text(0)=1 law(0,2,7,3)=4 'k/l*p' text(0)=1 law(0,7,2,2)=6",
            "'k%l*p' text(0)=1 law(0,17,10,3)=21 'k%l%p' text(0)=1 law(0,17,10,4)=3 '*k' text(0)=-10 'k**l' text(0)=-12 'k%' text(0)=-12");
    }

    private static void numbersAndNames() {
        Edges.edge("Terms", "Q: a NUMBER of 1 to 4 digits, a NAME, ! Q, ( T ).",
            "'0' text(0)=1 law(0,1,1,1)=0 '9' text(0)=1 law(0,0,0,0)=9 '99' text(0)=1 law(0,0,0,0)=99 '999' text(0)=1 law(0,0,0,0)=999",
            "'9999-9000' text(0)=1 law(0,0,0,0)=999 '9999-k' text(0)=1 law(0,9990,0,0)=9 '0009' text(0)=1 law(0,0,0,0)=9",
            "'0000' text(0)=1 law(0,1,1,1)=0 '00000' text(0)=-14 '12345' text(0)=-14 '1+12345' text(0)=-16 '1234k' text(0)=-14",
            "'k1' text(0)=-11 'kl' text(0)=-11 '1(' text(0)=-11 '1!' text(0)=-11 '()' text(0)=-11 '(k' text(0)=-12 'k)' text(0)=-11",
            "'!k*l' text(0)=1 law(0,0,5,0)=5 law(0,5,5,0)=0 '!(k*l)' text(0)=1 law(0,0,5,0)=1 law(0,5,5,0)=0 '!!k' text(0)=1",
            "law(0,7,0,0)=1 law(0,0,0,0)=0 '((k))' text(0)=1 law(0,7,0,0)=7 '!' text(0)=-11");
        Edges.about("Terms", "No blanks.");
        blank(" 1", 0);
        blank("1 ", 1);
        blank("1 +1", 1);
        blank("1+ 1", 2);
        blank("( 1)", 1);
        blank("(1 )", 2);
        blank("1\n", 1);
        blank("\t1", 0);
        blank(" ", 0);
    }

    private static void blank(String text, int fault) {
        Edges.due("text(0) of <" + text + ">", Checks.text(new OffOnTheSecond(), 0, text), -10 - fault);
    }

    private static void open() {
        Edges.edge("Terms", "At most 5 of ! and ( are open at once.",
            "'!!!!!k' text(0)=1 law(0,0,0,0)=1 law(0,3,0,0)=0 '(((((k)))))' text(0)=1 law(0,3,0,0)=3 '!(!(!k))' text(0)=1 law(0,3,0,0)=0",
            "'!!!!!!k' text(0)=-15 '((((((k))))))' text(0)=-15 '!(!(!(k)))' text(0)=-15 '(!(!(!k)))' text(0)=-15",
            "'!!!!!k+!!!!!k' text(0)=1 '!!!!!k+!!!!!!k' text(0)=-22 '(((((k)))))*(((((k)))))' text(0)=1 '((((k))+((k))))' text(0)=1",
            "'((((k)+((k))))' text(0)=-24 '(((((k)+(k)))))' text(0)=1 '(((((k)+((k)))))' text(0)=-19 '!(!(!k*!l))' text(0)=1",
            "'!(!(!k*!!l))' text(0)=-18 '!!!!(k)|!!!!!p' text(0)=1 '!!!!((k))' text(0)=-15 '(k)+(k)+(k)+(k)+(k)+(k)+(k)' text(0)=1",
            "'!k+!k+!k+!k+!k+!k+!k' text(0)=1 law(0,0,0,0)=7 'k+k+((((((k' text(0)=-19 'k+k*k+!!!!!k' text(0)=1 'k+k*k+!!!!!!k' text(0)=-21");
    }

    private static void ints() {
        Edges.edge("Terms", "Ints that wrap;",
            "'k+l=p' text(0)=1 law(0,MAX,1,MIN)=1 law(0,MIN,-1,MAX)=1 'k-l=p' text(0)=1 law(0,MIN,1,MAX)=1 law(0,MAX,-1,MIN)=1",
            "law(0,0,MIN,MIN)=1 'k*l=p' text(0)=1 law(0,65536,65536,0)=1 law(0,MIN,-1,MIN)=1 law(0,MAX,2,-2)=1 law(0,MAX,MAX,1)=1",
            "'9999*9999*9999=k' text(0)=1 law(0,-1027349969,0,0)=1",
            "'k/l=p' text(0)=1 law(0,MIN,-1,MIN)=1 'k%l=p' text(0)=1 law(0,MIN,-1,0)=1");
        Edges.edge("Terms", "/ cut, % the rest that it leaves,",
            "'k/l=p' text(0)=1 law(0,7,2,3)=1 law(0,-7,2,-3)=1 law(0,7,-2,-3)=1 law(0,-7,-2,3)=1 law(0,1,2,0)=1 law(0,-1,2,0)=1",
            "law(0,MIN,1,MIN)=1 law(0,MAX,MIN,0)=1 'k%l=p' text(0)=1 law(0,7,2,1)=1 law(0,-7,2,-1)=1 law(0,7,-2,1)=1",
            "law(0,-7,-2,-1)=1 law(0,1,2,1)=1 law(0,6,2,0)=1 law(0,MAX,MIN,MAX)=1");
        Edges.edge("Terms", "both by 0 are 0;",
            "'k/l=p' text(0)=1 law(0,7,0,0)=1 law(0,0,0,0)=1 law(0,MIN,0,0)=1 'k%l=p' text(0)=1 law(0,7,0,0)=1 law(0,0,0,0)=1",
            "law(0,MIN,0,0)=1 law(0,-7,0,0)=1 '5/0+5%0+3' text(0)=1 law(0,0,0,0)=3 'k/(l-l)' text(0)=1 law(0,9,4,0)=0");
        Edges.edge("Terms", "| & < = > ! are 1 or 0, what is not 0 being true;",
            "'(k|l)=p' text(0)=1 law(0,5,7,1)=1 law(0,-1,0,1)=1 law(0,0,MIN,1)=1 law(0,0,0,0)=1 '(k&l)=p' text(0)=1 law(0,5,6,1)=1",
            "law(0,1,2,1)=1 law(0,-1,MIN,1)=1 law(0,5,0,0)=1 law(0,0,5,0)=1 '!k=p' text(0)=1 law(0,0,0,1)=1 law(0,7,0,0)=1",
            "law(0,-1,0,0)=1 law(0,MIN,0,0)=1 '(k<l)*5+(k=l)*6+(k>l)*7' text(0)=1 law(0,1,2,0)=5 law(0,2,2,0)=6 law(0,3,2,0)=7");
        Edges.edge("Terms", "all is worked out.",
            "'k|l/0' text(0)=1 law(0,1,5,0)=1 law(0,0,5,0)=0 'k&l%0' text(0)=1 law(0,0,5,0)=0 law(0,1,5,0)=0 '0*(k/0)+2' text(0)=1",
            "law(0,9,9,9)=2");
    }

    private static void fault() {
        Edges.edge("Terms", "FAULT: the place of the first byte with which no TEXT goes on;",
            "')' text(0)=-10 'i' text(0)=-10 'l' text(1)=-10 'K' text(0)=-10 'k+i' text(0)=-12 'k+)' text(0)=-12 'k))))' text(0)=-11",
            "'(k)l(k' text(0)=-13 'k=l=p=k' text(0)=-13 '12345)' text(0)=-14 '(k))' text(0)=-13 'k+a+b' text(0)=-12");
        Edges.edge("Terms", "how many there are, if it ends too early.",
            "text(0)=-10 text(1)=-10 '(' text(0)=-11 '!' text(0)=-11 'k+' text(0)=-12 '(k' text(0)=-12 'k<' text(0)=-12 '((k)' text(0)=-14",
            "'k+k+k+k+k+k+k+k+k+k+k+k+k+k+k+k+k+k+k+k+k+k+k+k+k+k+k+k+k+k+' text(0)=-70",
            "'k+k+k+k+k+k+k+k+k+k+k+k+k+k+k+k+k+k+k+k+k+k+k+k+k+k+k+k+k+' text(0)=-68");
    }

    /** After each of these beginnings, every byte there is: either a TEXT goes on with it, or it is the FAULT. */
    private static void everyNextByte() {
        Edges.about("Terms", "TEXTS are read from THE TAPE (bytes, at most 60):");
        for (int use = 0; use < 2; use++) {
            String q = DIGITS + (use == 0 ? "klp" : "ipk");
            String open = q + OPENING;
            String joining = JOINING + COMPARING;
            for (String beginning : new String[] {"", "(", "!", "p+", "p-", "p*", "p/", "p%", "p<", "p=", "p>", "p|", "p&", "(p)*",
                "!!!!", "((((", "!(!(", "!!!!!p*", "(((((p)*", "!(!(!p*", "p<p&", "!!!!!p<", "!(!(!p<(p)|"}) {
                next(use, beginning, open);
            }
            for (String beginning : new String[] {"!!!!!", "(((((", "!(!(!", "p+!!!!!", "(!!!!", "(((((p*",
                "p+p-(((((", "p*p/p%!!!!!", "p|p&p<p+p*p|(((((", "(p+p)*p+!!!!!", "!p*p+!(!(("}) {
                next(use, beginning, q);
            }
            for (String beginning : new String[] {"1234", "0000", "p", "(p)", "!p", "!!!!!p", "p<p&p", "p<p|p", "(p<p)", "p+9999",
                "(((((p)))))", "!(p)", "p&p<p|p"}) {
                next(use, beginning, joining);
            }
            for (String beginning : new String[] {"1", "12", "123", "p*1", "!1"}) {
                next(use, beginning, joining + DIGITS);
            }
            for (String beginning : new String[] {"(p", "!(p", "(1234", "p<(p", "(p<p&p", "(((((p", "(((((p)", "!(!(!p"}) {
                next(use, beginning, joining + ")");
            }
            for (String beginning : new String[] {"p<p", "p=p", "p>p", "p<p+p", "p<p*p", "p<!p", "p<(p)", "p&p<p", "!p<p", "(p<p)=p"}) {
                next(use, beginning, JOINING);
            }
            next(use, "(p<p", JOINING + ")");
            next(use, "(p|p>9", JOINING + ")" + DIGITS);
        }
    }

    private static void next(int use, String beginning, String goesOn) {
        for (int next = 0; next < 256; next++) {
            OffOnTheSecond x = new OffOnTheSecond();
            int answer = Checks.text(x, use, beginning + (char) next);
            boolean refused = answer == -10 - beginning.length();
            boolean due = goesOn.indexOf((char) next) < 0;
            Edges.due("use " + use + ", '" + beginning + "' and then byte " + next + " is the FAULT", refused ? 1 : 0, due ? 1 : 0);
            if (due) {
                Edges.due("use " + use + ", '" + beginning + "' and more behind the FAULT",
                    Checks.text(x, use, beginning + (char) next + "+1)"), -10 - beginning.length());
            }
        }
    }

    private static void uses() {
        Edges.edge("Terms", "USES: 0 WORTH (of an ITEM): NAMES k KIND, l TRUE, p its place in THE ORDER; held within 0 .. 999;",
            "'k' text(0) law(0,-1,5,5)=0 law(0,0,5,5)=0 law(0,1,5,5)=1 law(0,999,5,5)=999 law(0,1000,5,5)=999 law(0,MIN,5,5)=0",
            "law(0,MAX,5,5)=999 'l' text(0) law(0,5,6,7)=6 'p' text(0) law(0,5,6,7)=7",
            // By KIND, by TRUE, by place: which of two equal ones is dropped shows what the NAMES are.
            "new item(0,50) item(10,50) clock(0,50) become(1,15) 'k' text(0) drops(1)=1 '9-k' text(0) drops(1)=2",
            "new item(20,50) item(20,60) clock(0,30) 'l' text(0) drops(1)=1 '999-l' text(0) drops(1)=2",
            "new item(0,50) item(0,50) clock(0,50) 'p' text(0) drops(1)=1 shift(0,1) drops(1)=2 '9-p' text(0) drops(1)=1",
            // A place counts those that are DROPPED or DONE, too.
            "new item(0,1) item(0,1) item(0,50) item(0,50) clock(0,51) air(1) drop(1) clock(0,51) 'p=3' text(0) drops(1)=4");
        Edges.edge("Terms", "without a TEXT l (held likewise).",
            "law(0,5,-1,5)=0 law(0,5,0,5)=0 law(0,5,999,5)=999 law(0,5,1000,5)=999 law(0,5,MIN,5)=0 law(0,5,MAX,5)=999 law(0,5,6,7)=6",
            "item(20,50) item(20,60) item(20,55) clock(0,60) drops(1)=1");
        Edges.edge("Terms", "1 LIKED: NAMES i the number of an ITEM, p its place in a row (from 0), k KIND; held within -99 .. 99;",
            "'i' text(1) law(1,-100,5,5)=-99 law(1,-99,5,5)=-99 law(1,99,5,5)=99 law(1,100,5,5)=99 law(1,MIN,5,5)=-99 law(1,MAX,5,5)=99",
            "law(1,0,5,5)=0 law(1,-1,5,5)=-1 'p' text(1) law(1,5,6,7)=6 'k' text(1) law(1,5,6,7)=7",
            "new item(0,1) item(10,1) item(20,1) drop(0) 'i' text(1) row(-1)=3 'p*10' text(1) row(-1)=10 'k*10' text(1) row(-1)=30",
            "'i*100' text(1) row(-1)=198 '0-i*100' text(1) row(-1)=-198 '(p=0)*50' text(1) row(-1)=50 row(0)=1 '(p=0)*i' text(1) row(0)=2",
            "row(1)=1");
        Edges.edge("Terms", "without a TEXT i*p (ints that wrap; held likewise).",
            "law(1,9,11,5)=99 law(1,10,10,5)=99 law(1,9,-11,5)=-99 law(1,10,-10,5)=-99 law(1,65536,65536,5)=0 law(1,MAX,2,5)=-2",
            "law(1,46341,46341,5)=-99 law(1,MIN,-1,5)=-99 law(1,MIN,MIN,5)=0 law(1,MAX,MAX,5)=1 law(1,0,5,5)=0");
    }

    private static void feed() {
        Edges.edge("9", "The n lowest bytes (1 .. 8) of a word, the lowest first, come to THE TAPE: how many there are.",
            "feed(0x6b2b31,1)=1 text(0)=1 law(0,5,0,0)=1 feed(0x6b2d39,3)=3 text(0)=1 law(0,4,0,0)=5",
            "feed(0x316b316b31312b6b,8)=8 count(8)=8 text(0)=-14 feed(0xffffffffffffff31,1)=1 text(0)=1 feed(0x8000000000006b31,8)=8",
            "text(0)=-11 feed(0x6c2b6c2b6c2b6c2b,7)=7 text(0)=-10 feed(0x382b372b362b352b,8)=8 text(0)=-10",
            "feed(0x2b372b362b352b34,8)=8 feed(0x38,1)=9 text(0)=1 law(0,0,0,0)=30 feed(0xff,1)=1 text(0)=-10 feed(0x1ff,2)=2 count(8)=2");
        Edges.edge("9", "BEYOND.",
            "feed(0x31,0)=BEYOND feed(0x31,-1)=BEYOND feed(0x31,9)=BEYOND feed(0x31,MIN)=BEYOND feed(0x31,MAX)=BEYOND count(8)=0",
            "feed(0x31,1)=1 feed(0x31,8)=9 count(8)=9 feed(0x31,0)=BEYOND");
        Edges.edge("9", "FULL.",
            "7*feed(0x31,8) count(8)=56 feed(0x31,5)=FULL feed(0x31,8)=FULL count(8)=56 feed(0x31,4)=60 feed(0x31,1)=FULL count(8)=60",
            "feed(0x31,0)=BEYOND feed(0x31,9)=BEYOND feed(0x31,MAX)=BEYOND feed(0x31,MIN)=BEYOND text(0)=-11 feed(0x31,1)=1",
            "new 7*feed(0x31,8) feed(0x31,3)=59 feed(0x31,2)=FULL feed(0x31,1)=60");
    }

    private static void text() {
        Edges.edge("10", "THE TAPE, which is empty then, is the TEXT of a USE (0, 1), in place of one ahead: 1.",
            "'k' text(0)=1 count(8)=0 law(0,5,6,7)=5 law(1,5,6,7)=30 'p' text(0)=1 law(0,5,6,7)=7 'i' text(1)=1 law(1,5,6,7)=5",
            "law(0,5,6,7)=7 count(8)=0 text(0)=-10 law(0,5,6,7)=7 '1' text(0)=1 untell(0)=1 untell(0)=0",
            "new '1111+1111+1111+1111+1111+1111+1111+1111+1111+1111+1111+1111' count(8)=59 text(0)=1 law(0,0,0,0)=999",
            "new '1+1111+1111+1111+1111+1111+1111+1111+1111+1111+1111+111+111' count(8)=59 text(1)=1 law(1,0,0,0)=99",
            "new '!k*2+!k*2+!k*2+!k*2+!k*2+!k*2+!k*2+!k*2+!k*2+!k*2+!k*2+!!!k' count(8)=59 text(0)=1 law(0,0,0,0)=23 law(0,1,0,0)=0",
            "new '(k)+(k)+(k)+(k)+(k)+(k)+(k)+(k)+(k)+(k)+(k)+(k)+(k)+(k)+10*k' count(8)=60 text(0)=1 law(0,2,0,0)=48");
        Edges.edge("10", "BEYOND (THE TAPE stays).",
            "'k' text(2)=BEYOND text(-1)=BEYOND text(MIN)=BEYOND text(MAX)=BEYOND count(8)=1 text(0)=1 law(0,5,6,7)=5 text(2)=BEYOND",
            "')' text(2)=BEYOND count(8)=1 text(-1)=BEYOND text(1)=-10 count(8)=0");
        Edges.edge("10", "-10 less the FAULT (no ERROR; the one ahead stays; THE TAPE is empty, too).",
            "'k' text(0)=1 'l+' text(0)=-12 count(8)=0 law(0,5,6,7)=5 'l)' text(0)=-11 law(0,5,6,7)=5 ')l' text(0)=-10 text(0)=-10",
            "law(0,5,6,7)=5 told(1)=0 told(2)=0 told(3)=0 told(4)=0 told(5)=0 told(6)=0 'l' text(1)=-10 untell(1)=0 untell(0)=1",
            "'1+' text(0)=-12 untell(0)=0 law(0,5,6,7)=6 '1' text(0)=1 law(0,5,6,7)=1");
    }

    private static void untell() {
        Edges.edge("11", "There is no TEXT of a USE any more: 1 if there was, else 0.",
            "untell(0)=0 untell(1)=0 'k' text(0) untell(1)=0 untell(0)=1 untell(0)=0 law(0,5,6,7)=6 'k' text(1) untell(0)=0",
            "law(1,5,6,7)=7 untell(1)=1 untell(1)=0 law(1,5,6,7)=30 '9' text(0) '8' text(1) untell(0)=1 law(1,0,0,0)=8 law(0,0,2,0)=2");
        Edges.edge("11", "BEYOND.",
            "'k' text(0) 'i' text(1) untell(-1)=BEYOND untell(2)=BEYOND untell(MIN)=BEYOND untell(MAX)=BEYOND untell(0)=1 untell(1)=1");
    }

    private static void law() {
        Edges.edge("12", "What a USE gives with its NAMES in order as a, b, c (any number).",
            "'k*100+l*10+p' text(0) law(0,4,5,6)=456 'i*25+p*5+k' text(1) law(1,1,2,3)=38 law(1,0,0,-1)=-1 law(0,MIN,MIN,MIN)=0",
            "'k+l+p' text(0) law(0,MAX,MAX,2)=0 law(0,MAX,MAX,3)=1 law(0,MIN,MIN,7)=7 'l' text(0) 'p' text(1) law(0,1,2,3)=2 law(1,1,2,3)=2");
        Edges.edge("12", "BEYOND.",
            "law(-1,0,0,0)=BEYOND law(2,0,0,0)=BEYOND law(MIN,0,0,0)=BEYOND law(MAX,0,0,0)=BEYOND law(0,5,6,7)=6 law(1,5,6,7)=30",
            "'k' text(0) 'i' text(1) law(2,0,0,0)=BEYOND law(-1,0,0,0)=BEYOND");
    }
}
