/** Promises 9 to 12: the tape, texts and what they give. */
public final class TextsTest {
    public static void main(String[] args) {
        feed();
        text();
        faults();
        untell();
        law();
        values();
        Checks.end();
    }

    private static void feed() {
        OffOnTheSecond x = new OffOnTheSecond();
        Checks.due("9: n 0", x.feed('k', 0), Checks.BEYOND);
        Checks.due("9: n 9", x.feed('k', 9), Checks.BEYOND);
        Checks.due("9: one byte, the others don't come", x.feed(0x6B2B31L, 1), 1);
        Checks.due("9: read", x.text(0), 1);
        Checks.due("9: the lowest first", x.feed(0x6B2D39L, 3), 3);
        Checks.due("9: a text", x.text(0), 1);
        Checks.due("9: 9-k", x.law(0, 4, 0, 0), 5);
        for (int n = 8; n <= 56; n += 8) {
            Checks.due("9: how many", x.feed(0x3131313131313131L, 8), n);
        }
        Checks.due("9: 61 are too many", x.feed(0, 5), Checks.FULL);
        Checks.due("9: BEYOND ahead of FULL", x.feed(0, 9), Checks.BEYOND);
        Checks.due("9: 60", x.feed(0, 4), 60);
        Checks.due("9: full", x.feed(0, 1), Checks.FULL);
        Checks.due("9: they stay", x.count(8), 60);
    }

    private static void text() {
        OffOnTheSecond x = new OffOnTheSecond();
        Checks.feed(x, "k");
        Checks.due("10: no such use", x.text(2), Checks.BEYOND);
        Checks.due("10: use below 0", x.text(-1), Checks.BEYOND);
        Checks.due("10: the tape stays", x.count(8), 1);
        Checks.due("10: a text", x.text(0), 1);
        Checks.due("10: the tape is empty", x.count(8), 0);
        Checks.due("10: in place", x.law(0, 5, 7, 9), 5);
        Checks.due("10: a fault", Checks.text(x, 0, "p)"), -11);
        Checks.due("10: the tape is empty after a fault", x.count(8), 0);
        Checks.due("10: the one ahead stays", x.law(0, 5, 7, 9), 5);
        Checks.due("10: a fault is no ERROR", x.told(1), 2);
        Checks.due("10: in place of the one ahead", Checks.text(x, 0, "p"), 1);
        Checks.due("10: the new one", x.law(0, 5, 7, 9), 9);
        Checks.due("10: the other use has none", x.law(1, 5, 7, 9), 35);
    }

    private static void faults() {
        fault(0, "", 0);
        fault(0, "i", 0);
        fault(1, "l", 0);
        fault(0, "k+i", 2);
        fault(0, "12345", 4);
        fault(0, "1+99999", 6);
        fault(0, "1+", 2);
        fault(0, "(1", 2);
        fault(0, "1)", 1);
        fault(0, "(1))", 3);
        fault(0, "1<2<3", 3);
        fault(0, "1=2>3", 3);
        fault(0, "1<2+3=4", 5);
        fault(0, "(1<2<3)", 4);
        fault(0, "1 +2", 1);
        fault(0, "1!", 1);
        fault(0, "k1", 1);
        fault(0, "1k", 1);
        fault(0, "(1)2", 3);
        fault(0, "1(", 1);
        fault(0, "()", 1);
        fault(0, "*1", 0);
        fault(0, "-1", 0);
        fault(0, "1--1", 2);
        fault(0, "1||1", 2);
        fault(0, "!", 1);
        fault(0, "!!!!!!1", 5);
        fault(0, "((((((", 5);
        fault(0, "(!(!(!", 5);
        fault(0, "!1+!!!!!!1", 8);
        fault(0, "1+1*1+((((((1", 11);
        fault(0, "(1)+((((((1", 9);
        fault(0, "\u00b1", 0);
        fault(0, "1\0", 1);
        fault(0, "1111+1111+1111+1111+1111+1111+1111+1111+1111+1111+1111+1111+", 60);
        good("!!!!!1");
        good("(((((1)))))");
        good("!(!(!1))+!!!!!1+(!(!(1)))");
        good("(1<2)<3");
        good("1<2&3<4|5=6");
        good("0000");
        good("1111+1111+1111+1111+1111+1111+1111+1111+1111+1111+1111+11111".substring(0, 59));
    }

    private static void fault(int use, String bytes, int place) {
        OffOnTheSecond x = new OffOnTheSecond();
        Checks.due("10: FAULT of " + bytes, Checks.text(x, use, bytes), -10 - place);
    }

    private static void good(String bytes) {
        Checks.due("10: " + bytes, Checks.text(new OffOnTheSecond(), 0, bytes), 1);
    }

    private static void untell() {
        OffOnTheSecond x = new OffOnTheSecond();
        Checks.text(x, 0, "3");
        Checks.text(x, 1, "4");
        Checks.due("11: there was one", x.untell(0), 1);
        Checks.due("11: no more", x.untell(0), 0);
        Checks.due("11: as without one", x.law(0, 1, 2, 3), 2);
        Checks.due("11: the other one stays", x.law(1, 1, 2, 3), 4);
        Checks.due("11: no such use", x.untell(2), Checks.BEYOND);
        Checks.due("11: use below 0", x.untell(-1), Checks.BEYOND);
    }

    private static void law() {
        OffOnTheSecond x = new OffOnTheSecond();
        Checks.due("12: l without a text", x.law(0, 5, 77, 9), 77);
        Checks.due("12: held below", x.law(0, 5, -1, 9), 0);
        Checks.due("12: held above", x.law(0, 5, 1000, 9), 999);
        Checks.due("12: i*p without a text", x.law(1, 5, -7, 9), -35);
        Checks.due("12: held below", x.law(1, 10, -10, 0), -99);
        Checks.due("12: held above", x.law(1, 10, 10, 0), 99);
        Checks.due("12: it wraps", x.law(1, 1 << 30, 4, 0), 0);
        Checks.due("12: no such use", x.law(2, 0, 0, 0), Checks.BEYOND);
        Checks.due("12: use below 0", x.law(-1, 0, 0, 0), Checks.BEYOND);
        Checks.text(x, 0, "k*100+l*10+p");
        Checks.due("12: names of 0 in order", x.law(0, 4, 5, 6), 456);
        Checks.due("12: a text held above", x.law(0, 40, 5, 6), 999);
        Checks.due("12: a text held below", x.law(0, -40, 5, 6), 0);
        Checks.text(x, 1, "i*25+p*5+k");
        Checks.due("12: names of 1 in order", x.law(1, 1, 2, 3), 38);
        Checks.due("12: a text held above", x.law(1, 10, 2, 3), 99);
        Checks.due("12: a text held below", x.law(1, -10, 2, 3), -99);
    }

    private static void values() {
        value("1+2*3", 7);
        value("20-5-3", 12);
        value("100/10/3", 3);
        value("17%10%4", 3);
        value("2*7/3%3", 1);
        value("7/(0-2)+10", 7);
        value("7%(0-2)+10", 11);
        value("(0-7)%2+10", 9);
        value("5/0+5%0+3", 3);
        value("1|0&0", 1);
        value("(1|0)&0", 0);
        value("5&0-3", 1);
        value("1+1=2", 1);
        value("3>2+1", 0);
        value("2<3", 1);
        value("3<3", 0);
        value("3>3", 0);
        value("(3>2)*5+(2<3)*7+(4=4)*9", 21);
        value("(3|0)*5+(2&3)*7+!0*9", 21);
        value("7|0", 1);
        value("0|0", 0);
        value("!0+5", 6);
        value("!7", 0);
        value("!!7", 1);
        value("!(1-1)*9", 9);
        value("!0*0", 0);
        value("9999*9999*9999*9999%1000+500", 500 + 9999 * 9999 * 9999 * 9999 % 1000);
        value("0|1/0", 0);
    }

    private static void value(String bytes, int want) {
        OffOnTheSecond x = new OffOnTheSecond();
        Checks.due("10: " + bytes, Checks.text(x, 0, bytes), 1);
        Checks.due("12: " + bytes, x.law(0, 0, 0, 0), Math.max(0, Math.min(999, want)));
    }
}
