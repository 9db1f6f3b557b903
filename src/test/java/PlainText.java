/** A TEXT read by its grammar, one method a rule; the FAULT by trying what each beginning could still become. */
final class PlainText {
    private static final class Bad extends RuntimeException {
        private static final long serialVersionUID = 1L;

        Bad() {
            super(null, null, false, false);
        }
    }

    private final String text;
    private final String names;
    private int at;
    private int open;
    private int[] values = new int[3];

    PlainText(String text, int use) {
        this.text = text;
        this.names = use == 0 ? "klp" : "ipk";
    }

    boolean isWhole() {
        try {
            at = 0;
            open = 0;
            t();
            return at == text.length();
        } catch (Bad e) {
            return false;
        }
    }

    int value(int a, int b, int c) {
        values = new int[] {a, b, c};
        at = 0;
        open = 0;
        return t();
    }

    /** The first byte with which no TEXT goes on: what stands up to it and with it is no TEXT's beginning. */
    static int fault(String text, int use) {
        for (int i = 0; i < text.length(); i++) {
            if (!begins(text.substring(0, i + 1), use)) {
                return i;
            }
        }
        return text.length();
    }

    private static boolean begins(String beginning, int use) {
        String ending = "";
        for (int closed = 0; closed <= 5; closed++) {
            if (new PlainText(beginning + ending, use).isWhole() || new PlainText(beginning + "1" + ending, use).isWhole()) {
                return true;
            }
            ending += ")";
        }
        return false;
    }

    private boolean next(String signs) {
        return at < text.length() && signs.indexOf(text.charAt(at)) >= 0;
    }

    private int t() {
        int v = a();
        while (next("|")) {
            at++;
            int w = a();
            v = v != 0 | w != 0 ? 1 : 0;
        }
        return v;
    }

    private int a() {
        int v = b();
        while (next("&")) {
            at++;
            int w = b();
            v = v != 0 & w != 0 ? 1 : 0;
        }
        return v;
    }

    private int b() {
        int v = s();
        if (next("<=>")) {
            char sign = text.charAt(at++);
            int w = s();
            v = (sign == '<' ? v < w : sign == '=' ? v == w : v > w) ? 1 : 0;
        }
        return v;
    }

    private int s() {
        int v = p();
        while (next("+-")) {
            char sign = text.charAt(at++);
            int w = p();
            v = sign == '+' ? v + w : v - w;
        }
        return v;
    }

    private int p() {
        int v = q();
        while (next("*/%")) {
            char sign = text.charAt(at++);
            int w = q();
            v = sign == '*' ? v * w : w == 0 ? 0 : sign == '/' ? v / w : v % w;
        }
        return v;
    }

    private int q() {
        if (next("0123456789")) {
            int from = at;
            while (next("0123456789") && at - from < 4) {
                at++;
            }
            return Integer.parseInt(text.substring(from, at));
        }
        if (next(names)) {
            return values[names.indexOf(text.charAt(at++))];
        }
        if (next("!(") && open < 5) {
            char sign = text.charAt(at++);
            open++;
            int v;
            if (sign == '!') {
                v = q() == 0 ? 1 : 0;
            } else {
                v = t();
                if (!next(")")) {
                    throw new Bad();
                }
                at++;
            }
            open--;
            return v;
        }
        throw new Bad();
    }
}
