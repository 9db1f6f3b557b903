import java.lang.reflect.InvocationTargetException;
import java.lang.reflect.Method;
import java.util.ArrayList;
import java.util.List;
import java.util.regex.Matcher;
import java.util.regex.Pattern;

/**
 * Runs of calls that hold the class to one sentence of the document, which each names.
 * A run is written as "item(0,5)=0 shift(0,1)=BEYOND": a call, and what is due, if that is asked;
 * 'k+l' feeds these bytes, 9*tell(1) calls nine times, "new" goes on with a new object.
 * After each call that is refused, twins tell whether it changed anything.
 */
final class Edges {
    private static final Pattern CALL = Pattern.compile("(?:(\\d+)\\*)?([a-zA-Z]+)\\(([^)]*)\\)(?:=(\\S+))?");
    private static final String[] ERRORS = {"", "BEYOND", "NONE", "STATE", "FULL", "KIND", "PARTED"};
    private static final long LOW = -1000000000L;

    private record Call(Method method, Object[] args, String due) {
        @Override public String toString() {
            StringBuilder text = new StringBuilder(method.getName()).append('(');
            for (int i = 0; i < args.length; i++) {
                text.append(i > 0 ? ", " : "").append(args[i]);
            }
            return text.append(')').toString();
        }
    }

    private static Document document = null;
    private static String about = "";

    private Edges() {
    }

    static void readFrom(Document one) {
        document = one;
    }

    /** What follows is about this sentence of a promise (or of the Terms). */
    static void about(String section, String sentence) {
        about = (section.matches("\\d+") ? "promise " : "") + section + ", '" + sentence + "': ";
        Checks.holds(about + "stands in the document", document == null || document.names(section, sentence));
    }

    static void due(String call, long got, long want) {
        Checks.due(about + call, got, want);
    }

    static void edge(String section, String sentence, String... runs) {
        about(section, sentence);
        List<Call> done = new ArrayList<>();
        OffOnTheSecond x = new OffOnTheSecond();
        for (String token : String.join(" ", runs).trim().split(" +")) {
            if (token.equals("new")) {
                x = new OffOnTheSecond();
                done.clear();
                continue;
            }
            for (Call call : read(token)) {
                holdTo(x, done, call);
                done.add(call);
            }
        }
    }

    private static void holdTo(OffOnTheSecond x, List<Call> done, Call call) {
        Long got = ask(x, call);
        if (call.due == null || got == null) {
            return;
        }
        due(done + " then " + call, got, number(call.due));
        int error = List.of(ERRORS).indexOf(call.due);
        if (error > 0 && got == LOW - error) {
            changesNothing(done, call, error);
        }
    }

    private static void changesNothing(List<Call> done, Call refused, int error) {
        OffOnTheSecond with = again(done);
        OffOnTheSecond without = again(done);
        ask(with, refused);
        for (int k = 1; k < ERRORS.length; k++) {
            due(done + " then " + refused + ": told(" + k + ")", with.told(k), without.told(k) + (k == error ? 1 : 0));
        }
        // A voice() that is PARTED leaves its BODIES in THE TRACE: that is told there.
        boolean traceToo = !ERRORS[error].equals("PARTED");
        List<String> changed = Probe.of(with, traceToo);
        List<String> same = Probe.of(without, traceToo);
        for (int i = 0; i < same.size(); i++) {
            String what = about + done + " then " + refused + " changed what is told: " + changed.get(i) + ", not " + same.get(i);
            Checks.holds(what, changed.get(i).equals(same.get(i)));
        }
    }

    private static OffOnTheSecond again(List<Call> done) {
        OffOnTheSecond x = new OffOnTheSecond();
        for (Call call : done) {
            ask(x, call);
        }
        return x;
    }

    /** The answer; none if the call threw, which is told. */
    private static Long ask(OffOnTheSecond x, Call call) {
        try {
            return ((Number) call.method.invoke(x, call.args)).longValue();
        } catch (InvocationTargetException e) {
            Checks.holds(about + call + " threw " + e.getCause(), false);
        } catch (IllegalAccessException e) {
            throw new IllegalStateException(e);
        }
        return null;
    }

    private static List<Call> read(String token) {
        List<Call> calls = new ArrayList<>();
        if (token.startsWith("'")) {
            feeds(calls, token.substring(1, token.length() - 1));
            return calls;
        }
        Matcher call = CALL.matcher(token);
        if (!call.matches()) {
            throw new IllegalArgumentException(token);
        }
        Method method = methodOf(call.group(2));
        String[] written = call.group(3).isEmpty() ? new String[0] : call.group(3).split(",");
        Object[] args = new Object[written.length];
        for (int i = 0; i < args.length; i++) {
            long v = number(written[i]);
            if (method.getParameterTypes()[i] == long.class) {
                args[i] = v;
            } else {
                args[i] = Math.toIntExact(v);
            }
        }
        int times = call.group(1) == null ? 1 : Integer.parseInt(call.group(1));
        for (int i = 0; i < times; i++) {
            calls.add(new Call(method, args, call.group(4)));
        }
        return calls;
    }

    private static void feeds(List<Call> calls, String bytes) {
        for (int from = 0; from < bytes.length(); from += 8) {
            int n = Math.min(8, bytes.length() - from);
            long word = 0;
            for (int i = n - 1; i >= 0; i--) {
                word = word << 8 | bytes.charAt(from + i) & 255;
            }
            calls.add(new Call(methodOf("feed"), new Object[] {word, n}, null));
        }
    }

    private static Method methodOf(String name) {
        for (Method method : OffOnTheSecond.class.getDeclaredMethods()) {
            if (method.getName().equals(name)) {
                return method;
            }
        }
        throw new IllegalArgumentException(name);
    }

    private static long number(String written) {
        for (int k = 1; k < ERRORS.length; k++) {
            if (ERRORS[k].equals(written)) {
                return LOW - k;
            }
        }
        switch (written) {
            case "MIN": return Integer.MIN_VALUE;
            case "MAX": return Integer.MAX_VALUE;
            default: return written.startsWith("0x") ? Long.parseUnsignedLong(written.substring(2), 16) : Long.parseLong(written);
        }
    }
}
