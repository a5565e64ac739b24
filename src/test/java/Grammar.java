/** TEXTS by the document's own lines, by descent; FAULT by trying whether any end makes a TEXT of the bytes so far. */
final class Grammar {
    private static final int STOPPED = -1;

    private final String names;
    private String text;
    private int at;
    private int open;
    private boolean broken;
    private int[] values = new int[3];

    Grammar(int use) {
        names = use == 0 ? "awo" : "smo";
    }

    /** The FAULT; -1 if there is none. */
    int fault(String bytes) {
        if (isText(bytes)) {
            return -1;
        }
        for (int n = 1; n <= bytes.length(); n++) {
            if (!goesOn(bytes.substring(0, n))) {
                return n - 1;
            }
        }
        return bytes.length();
    }

    private boolean goesOn(String start) {
        String closing = "";
        for (int i = 0; i <= 5; i++) {
            if (isText(start + closing) || isText(start + "0" + closing)) {
                return true;
            }
            closing += ")";
        }
        return false;
    }

    private boolean isText(String bytes) {
        value(bytes, 0, 0, 0);
        return !broken && at == text.length();
    }

    int value(String bytes, int a, int b, int c) {
        text = bytes;
        at = 0;
        open = 0;
        broken = false;
        values = new int[] {a, b, c};
        return t();
    }

    private int peek() {
        return at < text.length() ? text.charAt(at) : STOPPED;
    }

    private boolean takes(char c) {
        if (peek() == c) {
            at++;
            return true;
        }
        return false;
    }

    private int t() {
        int v = a();
        while (!broken && takes('|')) {
            int w = a();
            v = v != 0 | w != 0 ? 1 : 0;
        }
        return v;
    }

    private int a() {
        int v = b();
        while (!broken && takes('&')) {
            int w = b();
            v = v != 0 & w != 0 ? 1 : 0;
        }
        return v;
    }

    private int b() {
        int v = s();
        if (broken) return 0;
        if (takes('<')) return v < s() ? 1 : 0;
        if (takes('=')) return v == s() ? 1 : 0;
        if (takes('>')) return v > s() ? 1 : 0;
        return v;
    }

    private int s() {
        int v = p();
        while (!broken) {
            if (takes('+')) v += p();
            else if (takes('-')) v -= p();
            else break;
        }
        return v;
    }

    private int p() {
        int v = q();
        while (!broken) {
            if (takes('*')) v *= q();
            else if (takes('/')) { int w = q(); v = w == 0 ? 0 : v / w; }
            else if (takes('%')) { int w = q(); v = w == 0 ? 0 : v % w; }
            else break;
        }
        return v;
    }

    private int q() {
        if (broken) return 0;
        if (takes('!')) {
            opens();
            int v = q();
            open--;
            return v == 0 ? 1 : 0;
        }
        if (takes('(')) {
            opens();
            int v = t();
            open--;
            if (!takes(')')) broken = true;
            return v;
        }
        int name = peek() == STOPPED ? -1 : names.indexOf(peek());
        if (name >= 0) {
            at++;
            return values[name];
        }
        int from = at;
        while (at < from + 4 && peek() >= '0' && peek() <= '9') at++;
        if (at == from) {
            broken = true;
            return 0;
        }
        return Integer.parseInt(text.substring(from, at));
    }

    private void opens() {
        open++;
        if (open > 5) broken = true;
    }
}
