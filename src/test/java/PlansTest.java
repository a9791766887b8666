/** Promises 37 to 46: what first, two jibs, whom to believe, lifts that landed, and the image. */
public final class PlansTest {
    public static void main(String[] args) {
        first();
        firstByLaw();
        twoJibs();
        twoJibsInOrder();
        said();
        landed();
        hour();
        mean();
        image();
        imageHoldsAll();
        about();
        Checks.close();
    }

    private static void first() {
        HookSwings x = new HookSwings();
        Checks.is("no orders", x.first(1, -1), -1);
        x.order(1, 20, 999, 1, 0);
        x.order(1, 0, 999, 1, 0);
        x.order(1, 0, 1, 0, 0);
        x.order(1, 0, 0, 9, 0);
        x.order(1, 0, 999, 1, 1);
        Checks.is("the short one first", x.first(3, -1), 5);
        Checks.is("order", x.first(3, 0), 1);
        Checks.is("order", x.first(3, 1), 0);
        Checks.is("no third", x.first(3, 2), -1);
        Checks.is("-2", x.first(3, -2), -1);
        Checks.is("the one that is due first", x.first(7, -1), 7);
        int[] due = {2, 1, 0};
        for (int i = 0; i < 3; i++) {
            Checks.is("order " + i, x.first(7, i), due[i]);
        }
        Checks.is("one is late", x.first(8, -1), -1);
        Checks.is("one is late", x.first(15, 0), -1);
        Checks.is("of like ones the lowest", x.first(18, 0), 1);
        Checks.is("then the other", x.first(18, 1), 4);
        Checks.is("due exactly", x.first(4, -1), 0);
        Checks.is("no orders in it", x.first(0, -1), -1);
        Checks.is("no such order", x.first(32, -1), -1);
        Checks.is("-1", x.first(-1, -1), -1);
        HookSwings y = new HookSwings();
        for (int i = 0; i < 8; i++) {
            y.order(1, 0, 999, i, 0);
        }
        Checks.is("8 are too many", y.first(255, -1), -1);
        Checks.is("7", y.first(127, -1), 6 + 5 * 2 + 4 * 3 + 3 * 4 + 2 * 5 + 6);
        for (int i = 0; i < 7; i++) {
            Checks.is("most men first", y.first(127, i), 6 - i);
        }
        Checks.is("none behind", y.first(127, 7), -1);
        Checks.is("without the first: 7 too", y.first(254, 0), 7);
    }

    private static void firstByLaw() {
        HookSwings x = new HookSwings();
        Checks.text(x, "lasts weight+yard+rope;");
        x.by(0);
        x.order(10, 3, 18, 2, 0);
        x.order(4, 1, 999, 1, 0);
        Checks.is("due 18, lasts 18", x.first(1, -1), 36);
        Checks.is("the one that can't wait", x.first(3, 0), 0);
        Checks.is("cost", x.first(3, -1), 36 + 28);
        x.hoist(6);
        Checks.is("with another rope it is late", x.first(3, -1), -1);
    }

    private static void begins(HookSwings x, int set, int all, int... due) {
        Checks.is("all done", x.twoJibs(set, -1), all);
        for (int o = 0; o < due.length; o++) {
            Checks.is("order " + o + " begins", x.twoJibs(set, o), due[o]);
        }
    }

    private static void twoJibs() {
        HookSwings x = new HookSwings();
        Checks.is("no orders", x.twoJibs(1, -1), -1);
        x.order(1, 5, 0, 0, 0);
        x.order(1, 14, 0, 0, 1);
        x.order(1, 40, 0, 0, 0);
        x.order(1, 15, 0, 0, 1);
        begins(x, 3, 3, 0, 1);
        begins(x, 9, 2, 0, -1, -1, 0);
        begins(x, 7, 6, 0, 1, 1);
        begins(x, 15, 6, 0, 1, 1, 3);
        begins(x, 4, 5, -1, -1, 0, -1);
        Checks.is("not in the set", x.twoJibs(3, 2), -1);
        Checks.is("no such order", x.twoJibs(3, 4), -1);
        Checks.is("order -2", x.twoJibs(3, -2), -1);
        Checks.is("order 32", x.twoJibs(3, 32), -1);
        Checks.is("no orders in it", x.twoJibs(0, -1), -1);
        Checks.is("no such orders", x.twoJibs(16, -1), -1);
        Checks.is("-1", x.twoJibs(-1, -1), -1);
    }

    private static void twoJibsInOrder() {
        HookSwings x = new HookSwings();
        x.order(1, 10, 0, 0, 0);
        x.order(1, 10, 0, 0, 1);
        x.order(1, 50, 0, 0, 1);
        begins(x, 7, 8, 2, 0, 2);
        HookSwings y = new HookSwings();
        for (int i = 0; i < 8; i++) {
            y.order(1, 0, 0, 0, i % 2);
        }
        begins(y, 255, 8, 0, 1, 2, 3, 4, 5, 6, 7);
        HookSwings z = new HookSwings();
        Checks.text(z, "lasts weight;");
        z.by(0);
        z.order(9, 0, 0, 0, 0);
        z.order(5, 60, 0, 0, 0);
        z.order(3, 0, 0, 0, 1);
        z.order(20, 60, 0, 0, 1);
        begins(z, 15, 28, 3, 23, 0, 3);
    }

    private static void odds(String what, HookSwings x, long upper, long lower) {
        Checks.is(what, x.left(false), upper);
        Checks.is(what + " low", x.left(true), lower);
    }

    private static void said() {
        HookSwings x = new HookSwings();
        odds("nobody", x, 1, 2);
        Checks.is("one", x.said(8, true), 1);
        odds("8 left", x, 4, 5);
        Checks.is("two", x.said(8, false), 2);
        odds("one each", x, 1, 2);
        Checks.is("-2", x.said(-2, true), -2);
        Checks.is("11", x.said(11, true), -2);
        Checks.is("none any more", x.said(-1, true), 0);
        odds("nobody again", x, 1, 2);
        x.said(0, true);
        odds("never right", x, 0, 1);
        x.said(10, true);
        odds("both can't be", x, 0, 1);
        x.said(-1, false);
        x.said(10, true);
        odds("always right", x, 1, 1);
        x.said(-1, false);
        for (int i = 1; i <= 8; i++) {
            Checks.is("said", x.said(9, true), i);
        }
        Checks.is("a ninth", x.said(9, true), -2);
        Checks.is("said", x.about(6), 8);
        odds("eight of 9", x, 43046721, 43046722);
        Checks.is("none any more", x.said(-1, true), 0);
    }

    /** Three ORDERS landed in TENTHS 0, 3 and 7. */
    private static HookSwings three() {
        HookSwings x = new HookSwings();
        for (int i = 0; i < 4; i++) {
            x.order(i + 1, 0, 9, 9, 0);
        }
        x.hook(2);
        x.land();
        x.run(3);
        x.hook(0);
        x.land();
        x.run(4);
        x.hook(1);
        x.land();
        return x;
    }

    private static void landed() {
        HookSwings x = three();
        Checks.is("three", x.landed(-1, 0), 3);
        Checks.is("three, whatever", x.landed(-1, 9), 3);
        int[][] due = {{2, 0}, {0, 3}, {1, 7}};
        for (int i = 0; i < 3; i++) {
            Checks.is("order", x.landed(i, 0), due[i][0]);
            Checks.is("tenth", x.landed(i, 1), due[i][1]);
        }
        Checks.is("no fourth", x.landed(3, 0), -2);
        Checks.is("-2", x.landed(-2, 0), -2);
        Checks.is("what -1", x.landed(0, -1), -2);
        Checks.is("what 2", x.landed(0, 2), -2);
        x.undo();
        Checks.is("taken back", x.landed(-1, 0), 2);
        Checks.is("taken back", x.landed(2, 0), -2);
        x.undo();
        x.hook(3);
        x.land();
        Checks.is("another one", x.landed(2, 0), 3);
    }

    private static void hour() {
        HookSwings x = three();
        Checks.is("in 1", x.hour(1), 1);
        Checks.is("in 4", x.hour(4), 1);
        Checks.is("in 5", x.hour(5), 2);
        Checks.is("in 7", x.hour(7), 2);
        Checks.is("in 8", x.hour(8), 3);
        Checks.is("in 9999", x.hour(9999), 3);
        Checks.is("in 10000", x.hour(10000), -1);
        Checks.is("in 0", x.hour(0), -1);
        x.run(1);
        Checks.is("later in 1", x.hour(1), 0);
        Checks.is("later in 2", x.hour(2), 1);
    }

    private static void mean() {
        HookSwings x = three();
        Checks.is("mean", x.mean(false), 7);
        Checks.is("mean low", x.mean(true), 2);
        x.run(2);
        x.hook(3);
        x.land();
        Checks.is("9 by 3", x.mean(false), 3);
        Checks.is("9 by 3 low", x.mean(true), 1);
        HookSwings y = new HookSwings();
        y.order(1, 0, 9, 9, 0);
        y.order(1, 0, 9, 9, 0);
        Checks.is("none", y.mean(false), -1);
        y.hook(0);
        y.land();
        Checks.is("one", y.mean(true), -1);
        y.hook(1);
        y.land();
        Checks.is("at once", y.mean(false), 0);
        Checks.is("at once low", y.mean(true), 1);
    }

    private static void image() {
        HookSwings x = new HookSwings();
        x.aim(77);
        x.run(5);
        Checks.is("image", x.image(), 5);
        x.run(6);
        Checks.is("back", x.back(), 5);
        Checks.is("place", x.jib(0), 12);
        x.run(60);
        x.run(60);
        Checks.is("it stays", x.back(), 5);
        Checks.is("place again", x.jib(0), 12);
        Checks.is("steps can be taken back", x.undo(), 5);
        Checks.is("place before", x.jib(0), 9);
        HookSwings y = three();
        y.image();
        for (int i = 0; i < 9; i++) {
            y.undo();
        }
        y.hook(3);
        y.land();
        y.hook(1);
        y.land();
        Checks.is("another one is written down", y.landed(1, 0), 3);
        Checks.is("in another tenth", y.landed(1, 1), 2);
        y.back();
        Checks.is("what was written down: order", y.landed(1, 0), 0);
        Checks.is("what was written down: tenth", y.landed(1, 1), 3);
        Checks.is("what was written down: the last", y.landed(2, 1), 7);
    }

    private static void imageHoldsAll() {
        HookSwings x = three();
        Checks.text(x, "hand 1;lasts 7;");
        x.by(0);
        x.near(7);
        x.bar(0, 1, 0, 9);
        x.said(3, true);
        x.storm(55, 40);
        String seen = Checks.seen(x);
        x.image();
        x.order(9, 9, 9, 9, 1);
        Checks.text(x, "hand 0;");
        x.by(1);
        x.near(8);
        x.bar(-1, 0, 0, 0);
        x.bar(0, 600, 0, 9999);
        x.bar(0, 600, 0, 9999);
        x.said(-1, true);
        x.said(8, true);
        x.said(8, true);
        x.hook(3);
        for (int i = 0; i < 40; i++) {
            x.undo();
        }
        for (int i = 0; i < 40; i++) {
            x.storm(i, 40);
        }
        Checks.tape(x, "what");
        x.text();
        Checks.tape(x, "aim 5;");
        x.back();
        Checks.same("all is so again", Checks.seen(x), seen);
        Checks.is("bars", x.barred(1, false), -1);
        Checks.is("but the tape", x.about(8), 6);
        Checks.is("and the fault", x.fault(0), 1);
        Checks.is("a text anew", x.text(), 1);
        Checks.is("it is the new one", x.played(1), -1);
        Checks.is("aimed", x.jib(8), 5);
        for (int i = 0; i < 30; i++) {
            x.undo();
        }
        x.back();
        Checks.same("all is so once more", Checks.seen(x), seen);
        x.hook(3);
        x.undo();
        Checks.same("and once more", Checks.seen(x), seen);
    }

    private static void about() {
        HookSwings x = new HookSwings();
        x.order(1, 1, 1, 1, 1);
        x.near(9);
        x.storm(0, 1);
        Checks.text(x, "");
        Checks.text(x, "");
        x.by(1);
        x.run(2);
        x.said(1, true);
        x.bar(0, 0, 0, 0);
        x.bar(0, 0, 0, 0);
        x.feed(0, 0, 0, 0, 0);
        int[] due = {1, 9, 8011, 2, 1, 3, 1, 3, 20, 2};
        for (int what = 0; what < due.length; what++) {
            Checks.is("about " + what, x.about(what), due[what]);
        }
        Checks.is("about 10", x.about(10), -2);
        Checks.is("about -1", x.about(-1), -2);
    }
}
