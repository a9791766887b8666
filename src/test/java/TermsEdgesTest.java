/** "Terms" and promises 1 to 3, 9 to 20: each bound at its last value and just beyond it. */
public final class TermsEdgesTest {
    /** By this law the LOAD is below the TROLLEY at the end of each TENTH. */
    private static final String TIGHT = "swings away-speed;";

    public static void main(String[] args) {
        place();
        pace();
        load();
        speed();
        rope();
        weight();
        wind();
        goal();
        tenth();
        stormTenth();
        near();
        stillByPlace();
        stillByAway();
        stillBySpeed();
        stillByPace();
        kept();
        keptPast60();
        steps();
        stepsOfEachKind();
        takenBackIsNotDone();
        backIsNotDone();
        orders();
        writtenDown();
        hooks();
        Checks.close();
    }

    private static HookSwings ruled(String text) {
        HookSwings x = new HookSwings();
        Checks.is("text '" + text + "'", Checks.text(x, text), 0);
        x.by(0);
        return x;
    }

    private static void moves(HookSwings x, int... commands) {
        for (int command : commands) {
            x.move(command);
        }
    }

    private static void repeat(HookSwings x, int many, int command) {
        for (int i = 0; i < many; i++) {
            x.move(command);
        }
    }

    private static void place() {
        HookSwings x = new HookSwings();
        x.aim(600);
        repeat(x, 3, 1);
        repeat(x, 197, 0);
        Checks.is("597", x.jib(0), 597);
        Checks.is("600 itself", x.move(0), 600);
        Checks.is("PACE stays at 600", x.jib(1), 3);
        Checks.is("beyond 600 it is 600", x.move(0), 600);
        Checks.is("and PACE 0", x.jib(1), 0);
        Checks.is("out at 600", x.move(1), 600);
        Checks.is("PACE 0 again", x.jib(1), 0);
        Checks.is("in from 600", x.move(-1), 599);
        HookSwings y = new HookSwings();
        moves(y, 1, 1, -1, -1);
        Checks.is("4 and back", y.jib(0), 4);
        moves(y, -1, -1);
        Checks.is("1, quick", y.jib(0), 1);
        Checks.is("PACE -2", y.jib(1), -2);
        Checks.is("beyond 0 by 1", y.move(0), 0);
        Checks.is("PACE 0 at 0", y.jib(1), 0);
        HookSwings z = new HookSwings();
        moves(z, 1, -1, -1);
        Checks.is("0 itself", z.jib(0), 0);
        Checks.is("PACE stays at 0", z.jib(1), -1);
    }

    private static void pace() {
        HookSwings x = ruled("paces 9;");
        repeat(x, 8, 1);
        Checks.is("PACE 8", x.jib(1), 8);
        x.move(1);
        Checks.is("PACE 9", x.jib(1), 9);
        x.move(1);
        Checks.is("no more than 9", x.jib(1), 9);
        repeat(x, 17, -1);
        Checks.is("PACE -8", x.jib(1), -8);
        x.move(-1);
        Checks.is("PACE -9", x.jib(1), -9);
        x.move(-1);
        Checks.is("no less than -9", x.jib(1), -9);
        HookSwings y = new HookSwings();
        Checks.text(y, "paces 1;");
        Checks.text(y, "paces 0;");
        repeat(y, 3, 1);
        Checks.is("3 without a law", y.jib(1), 3);
        y.image();
        y.by(0);
        y.move(0);
        Checks.is("slower at once, if paces is less", y.jib(1), 1);
        y.back();
        y.by(0);
        y.move(1);
        Checks.is("also with a COMMAND out", y.jib(1), 1);
        y.back();
        y.by(1);
        Checks.is("paces 0: it stands", y.move(1), y.jib(0));
        Checks.is("PACE 0", y.jib(1), 0);
        y.back();
        repeat(y, 6, -1);
        Checks.is("-3 without a law", y.jib(1), -3);
        y.by(0);
        y.move(0);
        Checks.is("either way", y.jib(1), -1);
        HookSwings z = new HookSwings();
        repeat(z, 4, 1);
        Checks.is("3 at most without a law", z.jib(1), 3);
    }

    private static void load() {
        HookSwings x = ruled("swings 99;");
        x.run(60);
        x.run(40);
        Checks.is("LOAD at 9900", x.jib(2), 9900);
        x.run(1);
        Checks.is("LOAD at 9999", x.jib(2), 9999);
        Checks.is("AWAY -9999", x.jib(4), -9999);
        x.run(1);
        Checks.is("no more than 9999", x.jib(2), 9999);
        HookSwings y = ruled("swings if speed=0 then 0-98 else 0 end;");
        y.run(60);
        y.run(42);
        Checks.is("LOAD at -9996", y.jib(2), -9996);
        y.run(1);
        Checks.is("no less than -9999", y.jib(2), -9999);
        Checks.is("SPEED stays", y.jib(3), -98);
        HookSwings z = ruled("swings if speed=0 then 98 else 0 end;");
        z.run(60);
        z.run(43);
        Checks.is("no more than 9999 from 9996", z.jib(2), 9999);
        HookSwings u = ruled("swings 0-99;");
        u.run(60);
        u.run(41);
        Checks.is("LOAD at -9999", u.jib(2), -9999);
        Checks.is("AWAY 9999", u.jib(4), 9999);
        u.run(1);
        Checks.is("not beyond", u.jib(2), -9999);
    }

    private static void speed() {
        for (int sign = -1; sign <= 1; sign += 2) {
            HookSwings x = ruled("swings " + (sign < 0 ? "0-" : "") + "33;");
            x.run(3);
            Checks.is("SPEED 99 itself", x.jib(3), 99 * sign);
            x.run(1);
            Checks.is("no more than 99", x.jib(3), 99 * sign);
            HookSwings y = ruled("swings " + (sign < 0 ? "0-" : "") + "50;");
            y.run(1);
            Checks.is("SPEED 50", y.jib(3), 50 * sign);
            y.run(1);
            Checks.is("100 is 99", y.jib(3), 99 * sign);
            Checks.is("the LOAD is on by that", y.jib(2), 149 * sign);
        }
    }

    private static void rope() {
        HookSwings x = new HookSwings();
        Checks.is("ROPE at first", x.jib(5), 5);
        Checks.is("0", x.hoist(0), false);
        Checks.is("25", x.hoist(25), false);
        Checks.is("-1", x.hoist(-1), false);
        Checks.is("5 is so", x.hoist(5), false);
        Checks.is("ROPE stays", x.jib(5), 5);
        Checks.is("no STEP", x.about(5), 0);
        Checks.is("1", x.hoist(1), true);
        Checks.is("ROPE 1", x.jib(5), 1);
        Checks.is("1 is so", x.hoist(1), false);
        Checks.is("24", x.hoist(24), true);
        Checks.is("ROPE 24", x.jib(5), 24);
        Checks.is("24 is so", x.hoist(24), false);
        Checks.is("two STEPS", x.about(5), 2);
    }

    private static void weight() {
        HookSwings x = new HookSwings();
        Checks.is("WEIGHT at first", x.jib(6), 0);
        x.order(1, 0, 0, 0, 0);
        x.order(99, 0, 0, 0, 0);
        x.hook(0);
        Checks.is("WEIGHT 1", x.jib(6), 1);
        x.land();
        Checks.is("WEIGHT 0", x.jib(6), 0);
        x.hook(1);
        Checks.is("WEIGHT 99", x.jib(6), 99);
        x.undo();
        Checks.is("WEIGHT taken back", x.jib(6), 0);
    }

    private static void wind() {
        HookSwings x = new HookSwings();
        int[] draws = {9, 4, 1, 3};
        int[] xs = {59, 15674, 8011, 19593};
        for (int i = 0; i < draws.length; i++) {
            x.run(39);
            Checks.is("WIND 0 at least, TENTH " + x.jib(9), x.jib(7), 0);
            Checks.is("X ahead of the draw", x.about(2), xs[i]);
            x.run(1);
            Checks.is("a draw at TENTH " + x.jib(9), x.jib(7), draws[i]);
            Checks.is("WIND ahead of it", x.ago(1, 3), 0);
            x.image();
            x.run(1);
            Checks.is("one less", x.jib(7), draws[i] - 1);
            x.run(draws[i] - 1 > 0 ? draws[i] - 1 : 1);
            Checks.is("0 then", x.jib(7), 0);
            x.run(1);
            Checks.is("0 stays", x.jib(7), 0);
            x.back();
        }
    }

    private static void goal() {
        HookSwings x = new HookSwings();
        Checks.is("GOAL at first", x.jib(8), 0);
        Checks.is("0 is so", x.aim(0), false);
        Checks.is("-1", x.aim(-1), false);
        Checks.is("601", x.aim(601), false);
        Checks.is("GOAL stays", x.jib(8), 0);
        Checks.is("no STEP", x.about(5), 0);
        Checks.is("600", x.aim(600), true);
        Checks.is("600 is so", x.aim(600), false);
        Checks.is("GOAL 600", x.jib(8), 600);
        Checks.is("0", x.aim(0), true);
        Checks.is("GOAL 0", x.jib(8), 0);
        x.order(1, 60, 0, 0, 0);
        x.order(1, 0, 0, 0, 0);
        x.hook(0);
        Checks.is("YARD 60", x.jib(8), 600);
        x.undo();
        x.hook(1);
        Checks.is("YARD 0", x.jib(8), 0);
    }

    /** At TENTH 9960. */
    private static HookSwings late() {
        HookSwings x = new HookSwings();
        for (int i = 0; i < 166; i++) {
            x.run(60);
        }
        Checks.is("TENTH", x.jib(9), 9960);
        return x;
    }

    private static void tenth() {
        HookSwings x = late();
        x.image();
        Checks.is("run to 10000", x.run(40), -1);
        Checks.is("nothing is done", x.jib(9), 9960);
        Checks.is("run to 9999", x.run(39), 0);
        Checks.is("9999", x.jib(9), 9999);
        Checks.is("no more by move", x.move(0), -1);
        Checks.is("no more by run", x.run(1), -1);
        Checks.is("no more by storm", x.storm(0, 1), -1);
        Checks.is("9999 stays", x.jib(9), 9999);
        Checks.is("60 kept", x.about(7), 60);
        Checks.is("other STEPS can be", x.aim(5), true);
        x.back();
        x.run(38);
        Checks.is("move to 9999", x.move(0), 0);
        Checks.is("move beyond", x.move(0), -1);
        x.back();
        Checks.text(x, "run 39;aim 7;");
        Checks.text(x, "run 40;aim 7;");
        Checks.text(x, "land;run 60;aim 7;");
        x.image();
        Checks.is("played to 9999", x.played(0), -1);
        Checks.is("aimed then", x.jib(8), 7);
        x.back();
        Checks.is("played beyond", x.played(1), 0);
        Checks.is("those that can are", x.jib(9), 9999);
        Checks.is("nothing behind it", x.jib(8), 0);
        Checks.is("not one can", x.played(1), 0);
        Checks.is("9999 still", x.jib(9), 9999);
    }

    private static void stormTenth() {
        HookSwings x = late();
        Checks.is("storm to 10000", x.storm(1, 40), -1);
        Checks.is("nothing is done", x.jib(9), 9960);
                Checks.is("storm to 9999", x.storm(1, 39) >= 0, true);
        Checks.is("9999", x.jib(9), 9999);
        x.undo();
        Checks.is("taken back", x.jib(9), 9960);
        Checks.is("storm to 9999 again", x.storm(1, 39) >= 0, true);
    }

    private static void near() {
        HookSwings x = new HookSwings();
        Checks.is("NEAR at first", x.about(1), 2);
        Checks.is("-1", x.near(-1), false);
        Checks.is("100", x.near(100), false);
        Checks.is("NEAR stays", x.about(1), 2);
        Checks.is("0", x.near(0), true);
        Checks.is("NEAR 0", x.about(1), 0);
        Checks.is("99", x.near(99), true);
        Checks.is("NEAR 99", x.about(1), 99);
        Checks.is("99 again", x.near(99), true);
        x.aim(99);
        Checks.is("99 away", x.jib(10), 1);
        x.aim(100);
        Checks.is("100 away", x.jib(10), 0);
        x.undo();
        Checks.is("undo leaves NEAR", x.about(1), 99);
    }

    private static void stillByPlace() {
        HookSwings x = ruled(TIGHT);
        moves(x, 1, 1, 1, -1, -1, -1, 0);
        Checks.is("PLACE 9", x.jib(0), 9);
        Checks.is("AWAY 0", x.jib(4), 0);
        Checks.is("SPEED 0", x.jib(3), 0);
        int[][] due = {{7, 1}, {6, 0}, {9, 1}, {11, 1}, {12, 0}};
        for (int[] d : due) {
            x.aim(d[0]);
            Checks.is("9 to GOAL " + d[0], x.jib(10), d[1]);
        }
        x.near(0);
        int[][] exact = {{8, 0}, {9, 1}, {10, 0}};
        for (int[] d : exact) {
            x.aim(d[0]);
            Checks.is("9 to GOAL " + d[0] + " with NEAR 0", x.jib(10), d[1]);
        }
    }

    private static void stillByAway() {
        for (int sign = -1; sign <= 1; sign += 2) {
            HookSwings x = ruled("swings if speed=0 then 0" + (sign < 0 ? "-" : "+") + "1 else 0 end;");
            int[] due = {1, 1, 0};
            for (int k = 0; k < 3; k++) {
                x.move(0);
                Checks.is("AWAY", x.jib(4), -sign * (k + 1));
                Checks.is("HANGS STILL with AWAY " + x.jib(4), x.jib(10), due[k]);
            }
            x.near(3);
            Checks.is("with NEAR 3", x.jib(10), 1);
        }
    }

    private static void stillBySpeed() {
        for (int sign = -1; sign <= 1; sign += 2) {
            HookSwings x = ruled("swings 0" + (sign < 0 ? "-" : "+") + "1;");
            x.near(99);
            x.move(0);
            Checks.is("SPEED", x.jib(3), sign);
            Checks.is("with SPEED 1", x.jib(10), 1);
            x.move(0);
            Checks.is("SPEED", x.jib(3), 2 * sign);
            Checks.is("with SPEED 2", x.jib(10), 0);
        }
    }

    private static void stillByPace() {
        HookSwings x = new HookSwings();
        x.near(99);
        x.move(1);
        Checks.is("PACE 1", x.jib(10), 0);
        x.move(-1);
        Checks.is("PACE 0", x.jib(10), 1);
        x.move(-1);
        Checks.is("PACE -1", x.jib(1), -1);
        Checks.is("PACE -1 is none", x.jib(10), 0);
    }

    private static void kept() {
        HookSwings x = new HookSwings();
        Checks.is("nothing kept", x.about(7), 0);
        Checks.is("1 ago isn't kept", x.ago(1, 5), -100000);
        x.aim(1);
        x.move(0);
        Checks.is("1 kept", x.about(7), 1);
        Checks.is("1 ago", x.ago(1, 4), 1);
        Checks.is("2 ago isn't kept", x.ago(2, 4), -100000);
        Checks.is("0 ago", x.ago(0, 4), -100000);
        Checks.is("-1 ago", x.ago(-1, 4), -100000);
        int[] what = {0, 1, 2, 3, 4, 5};
        int[] due = {0, 0, 0, 0, 1, 0};
        for (int i = 0; i < what.length; i++) {
            Checks.is("what " + i, x.ago(1, what[i]), due[i]);
        }
        Checks.is("what -1", x.ago(1, -1), -100000);
        Checks.is("what 6", x.ago(1, 6), -100000);
    }

    private static void keptPast60() {
        HookSwings x = new HookSwings();
        x.aim(1);
        x.move(0);
        x.aim(2);
        x.move(0);
        x.aim(3);
        repeat(x, 57, 0);
        Checks.is("59 kept", x.about(7), 59);
        Checks.is("59 ago", x.ago(59, 4), 1);
        Checks.is("60 ago isn't yet", x.ago(60, 4), -100000);
        x.move(0);
        Checks.is("60 kept", x.about(7), 60);
        Checks.is("60 ago", x.ago(60, 4), 1);
        Checks.is("61 ago isn't", x.ago(61, 4), -100000);
        x.move(0);
        Checks.is("60 kept still", x.about(7), 60);
        Checks.is("the eldest is gone", x.ago(60, 4), 2);
        Checks.is("61 ago isn't any more", x.ago(61, 4), -100000);
        x.undo();
        Checks.is("taken back, the eldest is kept again", x.ago(60, 4), 1);
        Checks.is("60 kept then", x.about(7), 60);
        x.undo();
        Checks.is("59 kept then", x.about(7), 59);
        Checks.is("60 ago isn't then", x.ago(60, 4), -100000);
    }

    private static void steps() {
        HookSwings x = new HookSwings();
        Checks.is("none", x.undo(), -1);
        Checks.is("no STEPS", x.about(5), 0);
        for (int i = 1; i <= 29; i++) {
            x.aim(i);
        }
        Checks.is("29", x.about(5), 29);
        x.aim(30);
        Checks.is("30", x.about(5), 30);
        x.aim(31);
        Checks.is("30 at most", x.about(5), 30);
        for (int i = 29; i >= 0; i--) {
            Checks.is("how many yet", x.undo(), i);
            Checks.is("GOAL", x.jib(8), i + 1);
        }
        Checks.is("the 31st can't be taken back", x.undo(), -1);
        Checks.is("GOAL stays", x.jib(8), 1);
        x.aim(9);
        Checks.is("one again", x.about(5), 1);
        Checks.is("taken back", x.undo(), 0);
        Checks.is("GOAL as ahead of it", x.jib(8), 1);
        HookSwings y = new HookSwings();
        y.run(29);
        Checks.is("29 TENTHS of a RUN", y.about(5), 29);
        y.run(1);
        y.run(1);
        Checks.is("30 of 31", y.about(5), 30);
        y.undo();
        Checks.is("a RUN is taken back TENTH by TENTH", y.jib(9), 30);
        y.back();
        y.run(60);
        Checks.is("30 of 60", y.about(5), 30);
    }

    private static void stepsOfEachKind() {
        HookSwings x = new HookSwings();
        x.order(5, 0, 0, 0, 0);
        x.near(3);
        Checks.text(x, "rope 7;aim 8;move out;run 2;");
        x.by(0);
        x.by(-1);
        x.said(5, true);
        x.bar(0, 0, 0, 0);
        x.image();
        Checks.is("what is told is no STEP", x.about(5), 0);
        x.move(0);
        Checks.is("a TENTH", x.about(5), 1);
        x.hoist(6);
        Checks.is("HOISTED", x.about(5), 2);
        x.aim(2);
        Checks.is("AIMED", x.about(5), 3);
        x.hook(0);
        Checks.is("HOOKED", x.about(5), 4);
        x.land();
        Checks.is("LANDED", x.about(5), 5);
        x.storm(1, 40);
        Checks.is("A STORM is one", x.about(5), 6);
        x.played(0);
        Checks.is("PLAYED: each of its own", x.about(5), 11);
        Checks.is("a STEP less", x.undo(), 10);
        x.undo();
        x.undo();
        x.undo();
        Checks.is("ahead of aim 8", x.jib(8), 0);
        Checks.is("behind rope 7", x.jib(5), 7);
        x.undo();
        Checks.is("ahead of rope 7", x.jib(5), 6);
        Checks.is("behind the storm", x.jib(9), 41);
        x.undo();
        Checks.is("ahead of the storm", x.jib(9), 1);
        Checks.is("X ahead of it", x.about(2), 59);
        Checks.is("WIND ahead of it", x.jib(7), 0);
        Checks.is("kept ahead of it", x.about(7), 1);
        Checks.is("LANDED", x.ofOrder(0, 5), 1);
        x.undo();
        Checks.is("not LANDED", x.ofOrder(0, 5), 0);
        Checks.is("HOOKED", x.jib(11), 0);
        Checks.is("nothing written down", x.landed(-1, 0), 0);
    }

    /** One of many STEPS, by its number. */
    private static void step(HookSwings x, int i) {
        switch (i % 7) {
            case 0: x.storm(i * 31 % 10000, 1 + i % 40); break;
            case 1: x.aim(i * 17 % 601); break;
            case 2: x.hoist(1 + i * 5 % 24); break;
            case 3: x.move(i % 3 - 1); break;
            default: x.storm(i, 40);
        }
    }

    private static HookSwings stepped(int many) {
        HookSwings x = ruled("swings (away+wind)/rope-ago 9 speed/8;hand goal;paces 7;");
        for (int i = 0; i < many; i++) {
            step(x, i);
        }
        return x;
    }

    private static String keptOf(HookSwings x) {
        StringBuilder out = new StringBuilder();
        for (int k = 1; k <= 60; k++) {
            for (int what = 0; what <= 5; what++) {
                out.append(x.ago(k, what)).append(' ');
            }
        }
        for (int what = 0; what <= 12; what++) {
            out.append(x.jib(what)).append(' ');
        }
        return out.append(x.about(2)).append(' ').append(x.about(7)).toString();
    }

    /** So many STEPS taken back are as if they had never been, however far the rows have wrapped around. */
    private static void takenBackIsNotDone() {
        int[] manys = {1, 2, 5, 29, 30, 31, 45, 60, 90};
        int[] undone = {1, 2, 7, 15, 29, 30};
        for (int many : manys) {
            for (int back : undone) {
                HookSwings x = stepped(many);
                int done = Math.min(Math.min(back, 30), x.about(5));
                for (int i = 0; i < done; i++) {
                    x.undo();
                }
                // A STEP may be refused, so that the number of those that were done is looked up.
                HookSwings twin = new HookSwings();
                int upTo = many;
                for (int steps = 0; steps < done && upTo > 0; upTo--) {
                    twin = stepped(upTo - 1);
                    steps += keptOf(twin).equals(keptOf(stepped(upTo))) ? 0 : 1;
                }
                Checks.same(done + " of " + many + " taken back", keptOf(x), keptOf(twin));
            }
        }
    }

    private static void backIsNotDone() {
        int[] manys = {0, 1, 30, 31, 60};
        for (int many : manys) {
            HookSwings x = stepped(many);
            x.image();
            for (int i = 0; i < 20; i++) {
                x.undo();
            }
            for (int i = 0; i < 80; i++) {
                step(x, i * 3 + 1);
            }
            x.back();
            HookSwings twin = stepped(many);
            Checks.same("BACK from far off to " + many, keptOf(x), keptOf(twin));
            for (int i = 0; i < 31; i++) {
                Checks.is("taken back behind BACK", x.undo(), twin.undo());
            }
            Checks.same("as far as can be", keptOf(x), keptOf(twin));
        }
    }

    private static void orders() {
        HookSwings x = new HookSwings();
        int[] least = {1, 0, 0, 0, 0};
        int[] most = {99, 60, 999, 9, 1};
        for (int part = 0; part < 5; part++) {
            for (int beyond = 0; beyond < 2; beyond++) {
                int[] o = {5, 5, 5, 5, 1};
                o[part] = beyond == 0 ? least[part] - 1 : most[part] + 1;
                Checks.is("part " + part + " is " + o[part], x.order(o[0], o[1], o[2], o[3], o[4]), -1);
            }
        }
        Checks.is("no ORDERS", x.about(0), 0);
        for (int part = 0; part < 5; part++) {
            HookSwings y = new HookSwings();
            for (int end = 0; end < 2; end++) {
                int[] o = {5, 5, 5, 5, 1};
                o[part] = end == 0 ? least[part] : most[part];
                Checks.is("part " + part + " is " + o[part], y.order(o[0], o[1], o[2], o[3], o[4]), end);
                Checks.is("told", y.ofOrder(end, part), o[part]);
            }
        }
        for (int i = 0; i < 8; i++) {
            Checks.is("its number", x.order(i + 1, 0, 0, 0, 0), i);
        }
        Checks.is("there are 8", x.order(9, 0, 0, 0, 0), -1);
        Checks.is("8 stay", x.about(0), 8);
        Checks.is("the last", x.ofOrder(7, 0), 8);
        Checks.is("no 9th", x.ofOrder(8, 0), -1);
        Checks.is("undo takes no ORDER back", x.undo(), -1);
        Checks.is("8 still", x.about(0), 8);
    }

    /** An ORDER lands once, so no more than 8 can ever be written down. */
    private static void writtenDown() {
        HookSwings x = new HookSwings();
        for (int i = 0; i < 8; i++) {
            x.order(i + 1, 0, 0, 0, 0);
        }
        for (int i = 7; i >= 0; i--) {
            Checks.is("HOOKED", x.hook(i), true);
            Checks.is("LANDED", x.land(), i);
            x.move(0);
            Checks.is("written down", x.landed(-1, 0), 8 - i);
        }
        for (int i = 0; i < 8; i++) {
            Checks.is("from the eldest on", x.landed(i, 0), 7 - i);
            Checks.is("TENTH", x.landed(i, 1), i);
            Checks.is("can't be HOOKED again", x.hook(i), false);
        }
        Checks.is("no 9th", x.landed(8, 0), -2);
        Checks.is("nothing HOOKED", x.land(), -1);
        for (int i = 0; i < 24; i++) {
            x.undo();
        }
        Checks.is("all taken back", x.landed(-1, 0), 0);
        Checks.is("the eldest one, too", x.ofOrder(7, 5), 0);
    }

    private static void hooks() {
        HookSwings x = new HookSwings();
        Checks.is("no ORDER", x.hook(0), false);
        x.order(4, 0, 0, 0, 0);
        x.order(5, 1, 0, 0, 0);
        Checks.is("-1", x.hook(-1), false);
        Checks.is("2 of 2", x.hook(2), false);
        Checks.is("nothing HOOKED", x.jib(11), -1);
        Checks.is("1 of 2", x.hook(1), true);
        Checks.is("the same again", x.hook(1), false);
        Checks.is("another one", x.hook(0), false);
        Checks.is("one STEP", x.about(5), 1);
        Checks.is("10 from its GOAL", x.land(), -1);
        Checks.is("still HOOKED", x.jib(11), 1);
        Checks.is("WEIGHT stays", x.jib(6), 5);
        x.near(9);
        Checks.is("NEAR 9", x.land(), -1);
        x.near(10);
        Checks.is("NEAR 10", x.land(), 1);
        Checks.is("GOAL stays", x.jib(8), 10);
        Checks.is("once alone", x.land(), -1);
        Checks.is("LANDED can't be HOOKED", x.hook(1), false);
        x.undo();
        Checks.is("HOOKED again", x.jib(11), 1);
        x.undo();
        Checks.is("GOAL as ahead", x.jib(8), 0);
        Checks.is("it can be HOOKED again", x.hook(1), true);
    }
}
