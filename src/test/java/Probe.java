import java.util.ArrayList;
import java.util.List;

/** All that calls can tell of an object, told() apart. Asking changes it, so that it is asked of twins. */
final class Probe {
    private static final int MOST_ITEMS = 9;

    private final OffOnTheSecond x;
    private final List<String> answers = new ArrayList<>();

    private Probe(OffOnTheSecond x) {
        this.x = x;
    }

    static List<String> of(OffOnTheSecond x, boolean traceToo) {
        Probe probe = new Probe(x);
        if (traceToo) {
            probe.trace();
        }
        probe.all();
        return probe.answers;
    }

    private void tell(String call, long answer) {
        answers.add(call + " = " + answer);
    }

    private void trace() {
        tell("count(10)", x.count(10));
        for (int i = 0; i < 8; i++) {
            tell("body(" + i + ")", x.body(i));
        }
    }

    private void all() {
        view();
        for (int sheet = 0; sheet < 4; sheet++) {
            tell("judge(" + sheet + ")", x.judge(sheet));
            tell("sums(" + sheet + ", 0)", x.sums(sheet, 0));
            tell("sums(" + sheet + ", 1)", x.sums(sheet, 1));
        }
        tapeAndWaiting();
        tell("restore()", x.restore());
        view();
        tapeAndWaiting();
        // So that there is an ITEM for each number of a SHEET that is asked.
        for (int i = 0; i < MOST_ITEMS; i++) {
            tell("item(0, 1)", x.item(0, 1));
        }
        for (int sheet = 0; sheet < 4; sheet++) {
            numbers(sheet);
            for (int i = 0; i <= 24; i++) {
                tell("put(" + sheet + ", " + i + ", ..)", x.put(sheet, i, 3 * 65536 + 2 * 256 + 5));
            }
            numbers(sheet);
        }
        tell("image()", x.image());
    }

    private void view() {
        for (int what = 0; what <= 11; what++) {
            if (what != 10) {
                tell("count(" + what + ")", x.count(what));
            }
        }
        for (int item = 0; item < MOST_ITEMS; item++) {
            for (int what = 0; what <= 6; what++) {
                tell("itemIs(" + item + ", " + what + ")", x.itemIs(item, what));
            }
        }
        tell("law(0, 1, 2, 3)", x.law(0, 1, 2, 3));
        tell("law(1, 3, 2, 1)", x.law(1, 3, 2, 1));
    }

    private void tapeAndWaiting() {
        tell("text(0)", x.text(0));
        tell("law(0, 5, 6, 7)", x.law(0, 5, 6, 7));
        tell("check()", x.check());
    }

    private void numbers(int sheet) {
        tell("truths(" + sheet + ")", x.truths(sheet));
        for (int item = 0; item < MOST_ITEMS; item++) {
            tell("itemIs(" + item + ", 2)", x.itemIs(item, 2));
        }
    }
}
