/** Promises 36 to 41: images and what is told. */
public final class ToldTest {
    public static void main(String[] args) {
        image();
        notInTheImage();
        tellAndCheck();
        count();
        told();
        Checks.end();
    }

    private static void image() {
        OffOnTheSecond x = Checks.with(14, 120, 20, 0, 0, 60);
        Checks.due("37: there is none", x.restore(), Checks.NONE);
        x.shift(2, 0);
        x.drop(1);
        x.air(60);
        x.clock(0, 500);
        x.clock(2, 9);
        x.seed(5);
        Checks.text(x, 0, "3");
        Checks.feed(x, "12");
        x.tell(120);
        Checks.due("36: the first", x.image(), 1);
        changeAll(x);
        Checks.due("37: NOW", x.restore(), 60);
        asItWas(x);
        changeAll(x);
        Checks.due("37: it stays", x.restore(), 60);
        asItWas(x);
        x.clock(1, 77);
        Checks.due("36: in place of the one ahead", x.image(), 2);
        x.clock(1, 88);
        Checks.due("37: the new one", x.restore(), 77);
        Checks.due("36: how often", x.image(), 3);
    }

    private static void changeAll(OffOnTheSecond x) {
        x.anew();
        x.shift(0, 0);
        x.item(0, 1);
        x.drop(0);
        x.become(0, 69);
        x.truth(2, 5);
        x.clock(0, 1);
        x.clock(1, 2);
        x.clock(2, 3);
        x.seed(4);
        x.untell(0);
        x.text(0);
        Checks.text(x, 1, "5");
        x.check();
    }

    private static void asItWas(OffOnTheSecond x) {
        int[] due = {3, 60, 500, 9, 1, 0, 40, 120, 2, 1};
        for (int what = 0; what < due.length; what++) {
            Checks.due("37: count(" + what + ")", x.count(what), due[what]);
        }
        Checks.due("37: z", x.count(11), 5);
        int[][] items = {{1, 4, 120, 1, 0}, {2, 0, 0, 2, 1}, {0, 0, 60, 0, 2}};
        int[] whats = {0, 1, 2, 5, 6};
        for (int i = 0; i < items.length; i++) {
            for (int j = 0; j < whats.length; j++) {
                Checks.due("37: item " + i + ", " + whats[j], x.itemIs(i, whats[j]), items[i][j]);
            }
        }
        Checks.due("37: the text", x.law(0, 0, 9, 0), 3);
        Checks.due("37: no other text", x.law(1, 2, 3, 0), 6);
    }

    private static void notInTheImage() {
        OffOnTheSecond x = Checks.with(1, 7);
        x.sheet(0, 8, 1);
        x.voice(0, 0, 1);
        x.image();
        x.sheet(1, 8, 1);
        x.put(0, 0, 5);
        x.voice(0, 1, 1);
        x.drop(9);
        x.image();
        x.restore();
        Checks.due("36: sheets are not in it", x.judge(1), 0);
        Checks.due("36: nor their numbers", x.truths(0), 1);
        Checks.due("36: number", x.itemIs(0, 2), 5);
        Checks.due("36: nor the trace", x.count(10), 2);
        Checks.due("36: nor what told() tells", x.told(1), 1);
        Checks.due("36: nor how often", x.image(), 3);
    }

    private static void tellAndCheck() {
        OffOnTheSecond x = Checks.with(0, 10, 0, 20);
        Checks.due("39: none wait", x.check(), 0);
        Checks.due("38: one", x.tell(10), 1);
        Checks.due("38: two", x.tell(20), 2);
        Checks.due("39: they are", x.check(), 0);
        Checks.due("39: none wait then", x.count(9), 0);
        x.tell(10);
        Checks.due("39: fewer than items", x.check(), 0);
        x.tell(10);
        x.tell(21);
        x.tell(7);
        Checks.due("39: the second isn't so", x.check(), 2);
        Checks.due("39: none wait then", x.count(9), 0);
        x.tell(10);
        x.tell(20);
        x.tell(0);
        Checks.due("39: the third is none's", x.check(), 3);
        Checks.due("39: they change nothing", x.itemIs(1, 2), 20);
        for (int n = 1; n <= 24; n++) {
            Checks.due("38: how many", x.tell(Checks.BEYOND), n);
        }
        Checks.due("38: full", x.tell(1), Checks.FULL);
        Checks.due("38: told", x.told(4), 1);
        Checks.due("39: the first isn't so", x.check(), 1);
        Checks.due("38: room again", x.tell(1), 1);
    }

    private static void count() {
        OffOnTheSecond x = Checks.with(14, 120, 20, 0, 42, 30);
        x.clock(0, 700);
        x.clock(1, 5);
        x.clock(2, 8);
        x.drop(1);
        x.shift(2, 0);
        Checks.feed(x, "123456789");
        x.tell(1);
        x.voice(0, 1, 1);
        x.seed(Checks.NONE);
        int[] due = {3, 5, 700, 8, 2, 2, 40, 150, 9, 1, 3, Checks.NONE};
        for (int what = 0; what < due.length; what++) {
            Checks.due("40: count(" + what + ")", x.count(what), due[what]);
        }
        Checks.due("40: any number is no ERROR", x.told(2), 0);
        Checks.due("40: what below 0", x.count(-1), Checks.BEYOND);
        Checks.due("40: what above 11", x.count(12), Checks.BEYOND);
    }

    private static void told() {
        OffOnTheSecond x = Checks.with(0, 1);
        x.drop(1);
        x.odds(2);
        x.restore();
        x.clock(1, 9000);
        x.tuned();
        x.breaks(1);
        x.as(0, 1);
        x.voice(0, 3, 1);
        for (int i = 0; i < 25; i++) {
            x.tell(0);
        }
        int[] due = {2, 1, 1, 1, 1, 1};
        for (int k = 1; k <= 6; k++) {
            Checks.due("41: told(" + k + ")", x.told(k), due[k - 1]);
        }
        Checks.due("41: k 0", x.told(0), Checks.BEYOND);
        Checks.due("41: k 7", x.told(7), Checks.BEYOND);
        Checks.due("41: counted, too", x.told(1), 4);
    }
}
