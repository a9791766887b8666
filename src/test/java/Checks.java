/** Counts answers that are not as due, and puts texts on the tape. */
final class Checks {
    private static int made = 0;
    private static int wrong = 0;

    private Checks() {
    }

    static void is(String what, long got, long due) {
        made++;
        if (got != due) {
            wrong++;
            System.out.println(what + ": answered " + got + ", due is " + due);
        }
    }

    static void is(String what, boolean got, boolean due) {
        is(what, got ? 1L : 0L, due ? 1L : 0L);
    }

    /** Puts a text on the tape, which is emptied first. */
    static void tape(HookSwings x, String text) {
        x.end(0);
        for (int i = 0; i < text.length(); i += 20) {
            int[] five = new int[5];
            for (int k = 0; k < 20; k++) {
                int b = i + k < text.length() ? text.charAt(i + k) & 255 : 0;
                five[k / 4] = five[k / 4] << 8 | b;
            }
            x.feed(five[0], five[1], five[2], five[3], five[4]);
        }
        x.end(text.length());
    }

    static int text(HookSwings x, String text) {
        tape(x, text);
        return x.text();
    }

    /** Reads a text with a fault on a new object. */
    static void fault(String text, int what, int place) {
        HookSwings x = new HookSwings();
        is("text '" + text + "'", text(x, text), what == 0 ? 0 : -1);
        is("fault of '" + text + "'", x.fault(0), what);
        is("place of the fault of '" + text + "'", x.fault(1), place);
    }

    /** All that can be seen of an object but the tape and the fault, as one text. */
    static String seen(HookSwings x) {
        StringBuilder out = new StringBuilder();
        for (int i = 0; i <= 12; i++) {
            out.append(x.jib(i)).append(' ');
        }
        for (int i = 0; i <= 9; i++) {
            out.append(i == 8 ? 0 : x.about(i)).append(' ');
        }
        for (int k = 1; k <= 60; k++) {
            for (int what = 0; what <= 5; what++) {
                out.append(x.ago(k, what)).append(' ');
            }
        }
        for (int o = 0; o < 8; o++) {
            for (int what = 0; what <= 7; what++) {
                out.append(x.ofOrder(o, what)).append(' ');
            }
        }
        for (int i = -1; i < 8; i++) {
            out.append(x.landed(i, 0)).append(' ').append(x.landed(i, 1)).append(' ');
        }
        return out.append(x.left(false)).append(' ').append(x.left(true)).toString();
    }

    static void same(String what, String got, String due) {
        made++;
        if (!got.equals(due)) {
            wrong++;
            System.out.println(what + ":\n  is  " + got + "\n  due " + due);
        }
    }

    /** Says how many were wrong, and ends with 1 if one was. */
    static void close() {
        System.out.println(made + " answers, " + wrong + " not as due");
        if (wrong != 0 || made == 0) {
            System.exit(1);
        }
    }
}
