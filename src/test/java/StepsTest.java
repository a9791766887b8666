/** Promises 1 to 3, 9 to 20: the object, its orders, and its steps, forth and taken back. */
public final class StepsTest {
    public static void main(String[] args) {
        newObject();
        orders();
        near();
        moves();
        laws();
        runs();
        gusts();
        lastTenth();
        hoistAndAim();
        hookAndLand();
        plays();
        storms();
        undo();
        undoStorms();
        jib();
        ofOrder();
        ago();
        Checks.close();
    }

    private static void newObject() {
        HookSwings x = new HookSwings();
        int[] jib = {0, 0, 0, 0, 0, 5, 0, 0, 0, 0, 1, -1, 0};
        for (int what = 0; what < jib.length; what++) {
            Checks.is("new jib " + what, x.jib(what), jib[what]);
        }
        int[] about = {0, 2, 59, 0, -1, 0, 0, 0, 0, 0};
        for (int what = 0; what < about.length; what++) {
            Checks.is("new about " + what, x.about(what), about[what]);
        }
        Checks.is("about -1", x.about(-1), -2);
        Checks.is("about 10", x.about(10), -2);
        String fresh = Checks.seen(x);
        x.order(1, 1, 1, 1, 1);
        x.aim(50);
        x.run(3);
        Checks.is("back to what was new", x.back(), 0);
        Checks.same("the image of a new object", Checks.seen(x), fresh);
    }

    private static void orders() {
        HookSwings x = new HookSwings();
        Checks.is("least order", x.order(1, 0, 0, 0, 0), 0);
        Checks.is("most order", x.order(99, 60, 999, 9, 1), 1);
        int[][] wrong = {{0, 0, 0, 0, 0}, {100, 0, 0, 0, 0}, {1, -1, 0, 0, 0}, {1, 61, 0, 0, 0}, {1, 0, -1, 0, 0},
            {1, 0, 1000, 0, 0}, {1, 0, 0, -1, 0}, {1, 0, 0, 10, 0}, {1, 0, 0, 0, -1}, {1, 0, 0, 0, 2}};
        for (int[] w : wrong) {
            Checks.is("wrong order", x.order(w[0], w[1], w[2], w[3], w[4]), -1);
        }
        for (int i = 2; i < 8; i++) {
            Checks.is("order " + i, x.order(5, 5, 5, 5, 0), i);
        }
        Checks.is("ninth order", x.order(5, 5, 5, 5, 0), -1);
        Checks.is("orders", x.about(0), 8);
    }

    private static void near() {
        HookSwings x = new HookSwings();
        x.move(1);
        x.move(-1);
        Checks.is("near 0", x.near(0), true);
        Checks.is("1 is not near", x.jib(10), 0);
        Checks.is("near 1", x.near(1), true);
        Checks.is("1 is near", x.jib(10), 1);
        Checks.is("near 99", x.near(99), true);
        Checks.is("near -1", x.near(-1), false);
        Checks.is("near 100", x.near(100), false);
        Checks.is("near stays", x.about(1), 99);
        Checks.is("near is no step", x.about(5), 2);
    }

    private static void moves() {
        HookSwings x = new HookSwings();
        Checks.is("in at 0", x.move(-1), 0);
        Checks.is("pace is 0 beyond 0", x.jib(1), 0);
        int[][] due = {{1, 0, 0}, {3, 0, 0}, {6, 1, 1}, {9, 2, 3}};
        for (int[] d : due) {
            Checks.is("place", x.move(1), d[0]);
            Checks.is("speed", x.jib(3), d[1]);
            Checks.is("load", x.jib(2), d[2]);
        }
        Checks.is("no quicker than 3", x.jib(1), 3);
        Checks.is("on", x.move(0), 12);
        Checks.is("slower", x.move(-1), 14);
        Checks.is("move 2", x.move(2), -1);
        Checks.is("move -2", x.move(-2), -1);
        Checks.is("tenths", x.jib(9), 7);
        HookSwings y = new HookSwings();
        y.move(1);
        y.move(-1);
        y.move(-1);
        Checks.is("at 0", y.jib(0), 0);
        Checks.is("0 is not beyond", y.jib(1), -1);
        y.move(0);
        Checks.is("beyond 0", y.jib(1), 0);
    }

    private static void laws() {
        HookSwings x = new HookSwings();
        Checks.is("text", Checks.text(x, "paces 12;swings 5000;"), 0);
        Checks.is("text", Checks.text(x, "paces 0-4;swings 0-5000;"), 1);
        x.by(0);
        for (int i = 0; i < 12; i++) {
            x.move(1);
        }
        Checks.is("paces 9 at most", x.jib(1), 9);
        Checks.is("swings 99 at most", x.jib(3), 99);
        x.by(1);
        x.move(1);
        Checks.is("paces 0 at least", x.jib(1), 0);
        Checks.is("swings -99 at least", x.jib(3), 0);
        HookSwings y = new HookSwings();
        Checks.text(y, "swings 0-5000;");
        y.by(0);
        y.run(60);
        y.run(41);
        Checks.is("load at its bound", y.jib(2), -9999);
        y.run(1);
        Checks.is("load beyond its bound", y.jib(2), -9999);
        Checks.is("speed stays", y.jib(3), -99);
        y.by(-1);
        y.hoist(1);
        y.move(0);
        Checks.is("without a law: 99 at most", y.jib(3), 0);
        y.move(0);
        Checks.is("without a law: 99 at most again", y.jib(3), 99);
        HookSwings u = new HookSwings();
        Checks.text(u, "swings 5000;");
        Checks.text(u, "swings 0-5000;");
        u.by(1);
        u.run(1);
        u.by(0);
        u.run(1);
        Checks.is("swings 99 at most, from -99", u.jib(3), 0);
        u.run(60);
        u.run(60);
        u.by(-1);
        u.hoist(1);
        u.run(1);
        Checks.is("without a law: -99 at least", u.jib(3), 0);
        HookSwings z = new HookSwings();
        Checks.text(z, "paces if goal=5 and pace=0 and away=0 and wind=0 and speed=0 and rope=5 and weight=0 then 1 else 0 end;"
            + "swings if goal=4 and pace=1 and away=1 then 7 else 0 end;");
        z.by(0);
        z.aim(5);
        Checks.is("paces by the beginning", z.move(1), 1);
        Checks.is("swings by what is then", z.jib(3), 7);
    }

    private static void runs() {
        HookSwings x = new HookSwings();
        x.aim(600);
        Checks.is("hand out", x.jib(12), 1);
        x.run(60);
        x.run(60);
        Checks.is("run 180", x.run(60), 537);
        Checks.is("run to the end", x.run(21), 600);
        Checks.is("600 is not beyond", x.jib(1), 3);
        Checks.is("beyond 600", x.run(1), 600);
        Checks.is("pace beyond 600", x.jib(1), 0);
        Checks.is("run 0", x.run(0), -1);
        Checks.is("run 61", x.run(61), -1);
        Checks.is("run -1", x.run(-1), -1);
        x.aim(0);
        Checks.is("hand in", x.jib(12), -1);
        Checks.is("run in", x.run(1), 599);
        Checks.text(x, "hand 5000*5000;");
        Checks.text(x, "hand 0-2;");
        Checks.text(x, "hand 0;");
        x.by(0);
        Checks.is("hand above 0", x.jib(12), 1);
        Checks.is("run by a hand", x.run(1), 599);
        x.by(1);
        Checks.is("hand below 0", x.jib(12), -1);
        x.by(2);
        Checks.is("hand 0", x.jib(12), 0);
    }

    private static void gusts() {
        HookSwings x = new HookSwings();
        x.run(39);
        Checks.is("no gust yet", x.jib(7), 0);
        x.run(1);
        Checks.is("gust", x.jib(7), 9);
        Checks.is("X", x.about(2), 15674);
        x.move(0);
        Checks.is("one less", x.jib(7), 8);
        x.run(38);
        Checks.is("0 at least", x.jib(7), 0);
        x.move(0);
        Checks.is("next gust", x.jib(7), 4);
        Checks.is("next X", x.about(2), 8011);
    }

    private static void lastTenth() {
        HookSwings x = new HookSwings();
        Checks.text(x, "run 5;land;");
        for (int i = 0; i < 166; i++) {
            x.run(60);
        }
        String before = Checks.seen(x);
        Checks.is("run beyond 9999", x.run(40), -1);
        Checks.is("storm beyond 9999", x.storm(0, 40), -1);
        Checks.same("nothing is done then", Checks.seen(x), before);
        Checks.is("storm to 9997", x.storm(0, 37) >= 0, true);
        Checks.is("played as far as can be", x.played(0), 0);
        Checks.is("tenth", x.jib(9), 9999);
        Checks.is("move beyond", x.move(0), -1);
        Checks.is("run beyond", x.run(1), -1);
        Checks.is("storm beyond", x.storm(0, 1), -1);
        Checks.is("foretold isn't bound", x.foretold(200, false, 0) >= 0, true);
        Checks.is("undo", x.undo(), 29);
        Checks.is("tenth before", x.jib(9), 9998);
        Checks.is("then it can", x.move(0) >= 0, true);
    }

    private static void hoistAndAim() {
        HookSwings x = new HookSwings();
        Checks.is("hoist 5", x.hoist(5), false);
        Checks.is("hoist 0", x.hoist(0), false);
        Checks.is("hoist 25", x.hoist(25), false);
        Checks.is("hoist 1", x.hoist(1), true);
        Checks.is("hoist 24", x.hoist(24), true);
        Checks.is("rope", x.jib(5), 24);
        Checks.is("aim 0", x.aim(0), false);
        Checks.is("aim -1", x.aim(-1), false);
        Checks.is("aim 601", x.aim(601), false);
        Checks.is("aim 600", x.aim(600), true);
        Checks.is("aim 0 again", x.aim(0), true);
        Checks.is("steps", x.about(5), 4);
    }

    private static void hookAndLand() {
        HookSwings x = new HookSwings();
        Checks.is("hook without orders", x.hook(0), false);
        x.order(7, 0, 1, 1, 0);
        x.order(8, 60, 1, 1, 0);
        Checks.is("hook -1", x.hook(-1), false);
        Checks.is("hook 2", x.hook(2), false);
        Checks.is("land nothing", x.land(), -1);
        Checks.is("hook 1", x.hook(1), true);
        Checks.is("weight", x.jib(6), 8);
        Checks.is("goal", x.jib(8), 600);
        Checks.is("hooked", x.jib(11), 1);
        Checks.is("hook another", x.hook(0), false);
        Checks.is("land away from the goal", x.land(), -1);
        x.aim(0);
        Checks.is("land", x.land(), 1);
        Checks.is("weight then", x.jib(6), 0);
        Checks.is("hooked then", x.jib(11), -1);
        Checks.is("goal stays", x.jib(8), 0);
        Checks.is("landed order", x.ofOrder(1, 5), 1);
        Checks.is("hook a landed one", x.hook(1), false);
        Checks.is("hook the other", x.hook(0), true);
        Checks.is("land the other", x.land(), 0);
    }

    private static void plays() {
        HookSwings x = new HookSwings();
        Checks.is("played without texts", x.played(0), -2);
        Checks.text(x, "paces 1;order 9 at 0 due 8 men 7 on 1;move out;move in;move on;rope 9;hook 0;land;aim 3;run 2;");
        Checks.text(x, "rope 9;rope 9;aim 5;");
        Checks.text(x, "");
        Checks.is("all is done", x.played(0), -1);
        Checks.is("by its own law it isn't", x.jib(0), 4);
        int[] order = {9, 0, 8, 7, 1, 1};
        for (int what = 0; what < order.length; what++) {
            Checks.is("order " + what, x.ofOrder(0, what), order[what]);
        }
        Checks.is("landed", x.landed(0, 1), 3);
        Checks.is("steps", x.about(5), 9);
        Checks.is("rope 9 is so", x.played(1), 0);
        x.hoist(3);
        Checks.is("the second can't be", x.played(1), 1);
        Checks.is("what was done stays", x.jib(5), 9);
        Checks.is("no clauses", x.played(2), -1);
        Checks.is("again: order, then hook is landed", x.played(0), 5);
        Checks.is("played 3", x.played(3), -2);
        Checks.is("played -1", x.played(-1), -2);
        HookSwings y = new HookSwings();
        Checks.text(y, "hand 1;order 1 at 1 due 1 men 1 on 1;");
        for (int i = 0; i < 8; i++) {
            Checks.is("orders told by a text", y.played(0), -1);
        }
        Checks.is("the ninth order", y.played(0), 1);
    }

    private static void storms() {
        HookSwings x = new HookSwings();
        Checks.is("storm", x.storm(0, 1), 1);
        Checks.is("wind one less", x.jib(7), 8);
        Checks.is("X", x.about(2), 8011);
        Checks.is("wind at its beginning", x.ago(1, 3), 9);
        Checks.is("its command", x.ago(1, 5), 1);
        Checks.is("one step", x.about(5), 1);
        HookSwings y = new HookSwings();
        y.run(39);
        y.storm(0, 1);
        Checks.is("a gust in a storm", y.jib(7), 4);
        Checks.is("X behind it", y.about(2), 19593);
        HookSwings z = new HookSwings();
        z.storm(9999, 40);
        Checks.is("wind of the greatest seed", z.ago(40, 3), 6);
        Checks.is("40 tenths", z.jib(9), 40);
        Checks.is("one step of 40", z.undo(), 0);
        Checks.is("all taken back", z.about(2), 59);
        Checks.is("storm -1", z.storm(-1, 1), -1);
        Checks.is("storm 10000", z.storm(10000, 1), -1);
        Checks.is("storm of 0", z.storm(0, 0), -1);
        Checks.is("storm of 41", z.storm(0, 41), -1);
    }

    private static void undo() {
        HookSwings x = new HookSwings();
        Checks.is("nothing to take back", x.undo(), -1);
        x.order(3, 0, 9, 9, 1);
        String[] seen = new String[8];
        int steps = 0;
        seen[steps++] = bare(x);
        x.move(1);
        seen[steps++] = bare(x);
        x.hoist(9);
        seen[steps++] = bare(x);
        x.aim(300);
        seen[steps++] = bare(x);
        x.hook(0);
        seen[steps++] = bare(x);
        x.move(-1);
        seen[steps++] = bare(x);
        x.land();
        seen[steps++] = bare(x);
        x.storm(77, 30);
        for (int i = steps - 1; i >= 0; i--) {
            Checks.is("how many yet", x.undo(), i);
            Checks.same("as ahead of step " + i, bare(x), seen[i]);
        }
        Checks.is("none any more", x.undo(), -1);
        x.run(60);
        for (int i = 29; i >= 0; i--) {
            Checks.is("the latest 30", x.undo(), i);
        }
        Checks.is("no more than 30", x.undo(), -1);
        Checks.is("tenth", x.jib(9), 30);
        Checks.is("kept", x.about(7), 30);
    }

    private static String bare(HookSwings x) {
        String seen = Checks.seen(x);
        return seen.replaceFirst("^((?:\\S+ ){18})\\S+", "$1steps");
    }

    private static void undoStorms() {
        HookSwings x = new HookSwings();
        x.storm(5, 40);
        x.storm(6, 40);
        String seen = bare(x);
        for (int i = 0; i < 30; i++) {
            x.storm(100 + i, 40);
        }
        Checks.is("tenths", x.jib(9), 1280);
        for (int i = 0; i < 30; i++) {
            x.undo();
        }
        Checks.same("behind 30 storms", bare(x), seen);
        Checks.is("kept", x.about(7), 60);
    }

    private static void jib() {
        HookSwings x = new HookSwings();
        Checks.is("jib -1", x.jib(-1), -100000);
        Checks.is("jib 13", x.jib(13), -100000);
        x.near(1);
        Checks.text(x, "swings 2;");
        Checks.text(x, "swings 1;");
        x.by(1);
        x.move(0);
        Checks.is("speed 1 and away 1", x.jib(10), 1);
        HookSwings y = new HookSwings();
        Checks.text(y, "swings 2;");
        y.by(0);
        y.move(0);
        Checks.is("away", y.jib(4), -2);
        Checks.is("speed 2", y.jib(10), 0);
        HookSwings z = new HookSwings();
        z.aim(2);
        Checks.is("2 from the goal", z.jib(10), 1);
        z.aim(3);
        Checks.is("3 from the goal", z.jib(10), 0);
        z.aim(2);
        z.move(1);
        Checks.is("pace", z.jib(10), 0);
    }

    private static void ofOrder() {
        HookSwings x = new HookSwings();
        Checks.is("no order", x.ofOrder(0, 0), -1);
        x.order(11, 59, 33, 4, 1);
        int[] due = {11, 59, 33, 4, 1, 0, 6, 1};
        for (int what = 0; what < due.length; what++) {
            Checks.is("of order " + what, x.ofOrder(0, what), due[what]);
        }
        Checks.is("what 8", x.ofOrder(0, 8), -1);
        Checks.is("what -1", x.ofOrder(0, -1), -1);
        Checks.is("order 1", x.ofOrder(1, 0), -1);
        Checks.is("order -1", x.ofOrder(-1, 0), -1);
        Checks.text(x, "lasts yard+weight*rope-100;holds yard*2-100;");
        Checks.text(x, "lasts 0;holds 0-1;");
        Checks.text(x, "lasts 100;holds 100;");
        x.by(0);
        Checks.is("lasts", x.ofOrder(0, 6), 14);
        Checks.is("holds", x.ofOrder(0, 7), 18);
        x.by(1);
        Checks.is("lasts 1 at least", x.ofOrder(0, 6), 1);
        Checks.is("holds 0 at least", x.ofOrder(0, 7), 0);
        x.by(2);
        Checks.is("lasts 99 at most", x.ofOrder(0, 6), 99);
        Checks.is("holds 99 at most", x.ofOrder(0, 7), 99);
    }

    private static void kept(String what, HookSwings x, int away, int speed, int pace, int goal) {
        Checks.is(what + ": away", x.ago(1, 0), away);
        Checks.is(what + ": speed", x.ago(1, 1), speed);
        Checks.is(what + ": pace", x.ago(1, 2), pace);
        Checks.is(what + ": goal", x.ago(1, 4), goal);
    }

    private static void ago() {
        HookSwings x = new HookSwings();
        Checks.is("nothing kept", x.ago(1, 0), -100000);
        x.aim(9);
        x.move(1);
        x.move(1);
        x.move(0);
        int[][] due = {{3, 0, 2, 0, 6, 0}, {1, 0, 1, 0, 8, 1}, {0, 0, 0, 0, 9, 1}};
        for (int k = 1; k <= 3; k++) {
            for (int what = 0; what <= 5; what++) {
                Checks.is("ago " + k + ", " + what, x.ago(k, what), due[k - 1][what]);
            }
        }
        Checks.is("ago 4", x.ago(4, 0), -100000);
        Checks.is("ago 0", x.ago(0, 0), -100000);
        Checks.is("what -1", x.ago(1, -1), -100000);
        Checks.is("what 6", x.ago(1, 6), -100000);
        Checks.is("kept", x.about(7), 3);
        x.run(60);
        Checks.is("60 kept", x.about(7), 60);
        Checks.is("ago 60", x.ago(60, 0) != -100000, true);
        Checks.is("ago 61", x.ago(61, 0), -100000);
        HookSwings y = new HookSwings();
        Checks.text(y, "swings 0-99;");
        Checks.text(y, "swings 99;");
        y.by(0);
        y.run(60);
        y.run(60);
        Checks.is("load far off", y.jib(2), -9999);
        y.aim(600);
        y.by(1);
        y.move(1);
        Checks.is("kept away", y.ago(1, 0), 9999);
        Checks.is("kept speed", y.ago(1, 1), -99);
        Checks.is("kept goal", y.ago(1, 4), 600);
        HookSwings z = new HookSwings();
        Checks.text(z, "paces 9;swings 99;");
        Checks.text(z, "paces 9;swings 0-99;");
        z.by(0);
        z.run(60);
        z.run(60);
        Checks.is("load 9999", z.jib(2), 9999);
        z.move(0);
        kept("at 0", z, -9999, 99, 0, 0);
        z.aim(600);
        z.by(1);
        for (int i = 0; i < 5; i++) {
            z.run(60);
        }
        z.aim(0);
        z.move(0);
        kept("at 600", z, 10599, -99, 0, -600);
        z.aim(500);
        z.run(11);
        kept("quick in", z, z.ago(1, 0), -99, -9, -46);
    }
}
