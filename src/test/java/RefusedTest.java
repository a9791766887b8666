import java.util.function.ToLongFunction;

/**
 * A refused call does nothing, and what only asks changes nothing: each such call is made on one of two twins, which
 * must be alike then, in all that can be seen, in what the tape holds, in what can be taken back, and in the image.
 */
public final class RefusedTest {
    private static final int MIN = Integer.MIN_VALUE;
    private static final int MAX = Integer.MAX_VALUE;

    public static void main(String[] args) {
        for (int state = 0; state <= 3; state++) {
            others(state);
            asking(state);
        }
        full();
        empty();
        hooked();
        last();
        Checks.close();
    }

    /** 0: new; 1: some of each; 2: all that there can be; 3: at the last TENTH. */
    private static HookSwings made(int state) {
        HookSwings x = new HookSwings();
        if (state == 0) {
            return x;
        }
        int many = state == 2 ? 4 : 2;
        for (int o = 0; o < many * 2; o++) {
            x.order(10 + o, o % 3, 99, o % 10, o % 2);
        }
        Checks.text(x, "hand goal-pace*2+ago 2 away;paces 5;swings (away+wind)/rope-ago 1 speed/4;lasts weight/3;holds 90-yard;");
        Checks.text(x, "hand wind-3;order 9 at 9 due 9 men 9 on 1;run 60;");
        if (state == 2) {
            Checks.text(x, "hand 0;land;");
            Checks.text(x, "");
        }
        x.by(0);
        x.near(20);
        for (int i = 0; i < many; i++) {
            x.bar(100 + i, 200 + i, 0, 9999);
        }
        for (int i = 0; i < many * 2; i++) {
            x.said(2 + i, i % 3 == 0);
        }
        x.hook(0);
        x.land();
        x.storm(77, 40);
        if (state == 3) {
            for (int i = 0; i < 165; i++) {
                x.run(60);
            }
            x.run(59);
        }
        x.image();
        if (state != 3) {
            x.run(33);
        }
        x.aim(55);
        x.hook(1);
        Checks.tape(x, "aim 44;");
        return x;
    }

    private static String whole(HookSwings x) {
        StringBuilder out = new StringBuilder(Checks.seen(x));
        out.append(" tape ").append(x.about(8)).append(" fault ").append(x.fault(0)).append(' ').append(x.fault(1));
        out.append(" barred ").append(x.barred(200, true)).append(' ').append(x.barred(200, false));
        for (int what = 0; what <= 3; what++) {
            out.append(' ').append(x.foretold(97, true, what)).append(' ').append(x.foretold(97, false, what));
        }
        return out.append(' ').append(x.whoseHand()).append(' ').append(x.over()).toString();
    }

    /** What can be seen on the way back: by STEPS, by the image, and of the tape. */
    private static String wayBack(HookSwings x) {
        StringBuilder out = new StringBuilder(whole(x));
        for (int i = 0; i < 31; i++) {
            out.append('\n').append(x.undo()).append(": ").append(i % 10 == 0 ? whole(x) : "");
        }
        out.append('\n').append(whole(x)).append('\n').append(x.back()).append(": ").append(whole(x));
        out.append('\n').append(x.text()).append(' ').append(x.fault(0)).append(' ').append(x.played(x.about(3) - 1));
        return out.append('\n').append(whole(x)).toString();
    }

    private static void refused(int state, String what, long due, ToLongFunction<HookSwings> call) {
        HookSwings x = made(state);
        HookSwings twin = made(state);
        Checks.is(what + " in state " + state, call.applyAsLong(x), due);
        Checks.same(what + " does nothing in state " + state, wayBack(x), wayBack(twin));
    }

    private static long bit(boolean answer) {
        return answer ? 1 : 0;
    }

    /** "for others": wrong arguments, whatever the state is. */
    private static void others(int state) {
        int[] far = {MIN, MAX};
        for (int v : far) {
            refused(state, "order by weight", -1, x -> x.order(v, 0, 0, 0, 0));
            refused(state, "order by yard", -1, x -> x.order(1, v, 0, 0, 0));
            refused(state, "order by due", -1, x -> x.order(1, 0, v, 0, 0));
            refused(state, "order by men", -1, x -> x.order(1, 0, 0, v, 0));
            refused(state, "order by jib", -1, x -> x.order(1, 0, 0, 0, v));
            refused(state, "near", 0, x -> bit(x.near(v)));
            refused(state, "end", -1, x -> x.end(v));
            refused(state, "fault", -1, x -> x.fault(v));
            refused(state, "by", 0, x -> bit(x.by(v)));
            refused(state, "move", -1, x -> x.move(v));
            refused(state, "run", -1, x -> x.run(v));
            refused(state, "hoist", 0, x -> bit(x.hoist(v)));
            refused(state, "aim", 0, x -> bit(x.aim(v)));
            refused(state, "hook", 0, x -> bit(x.hook(v)));
            refused(state, "played", -2, x -> x.played(v));
            refused(state, "storm by seed", -1, x -> x.storm(v, 1));
            refused(state, "storm by n", -1, x -> x.storm(1, v));
            refused(state, "jib", -100000, x -> x.jib(v));
            refused(state, "ofOrder", -1, x -> x.ofOrder(v, 0));
            refused(state, "ofOrder by what", -1, x -> x.ofOrder(0, v));
            refused(state, "ago", -100000, x -> x.ago(v, 0));
            refused(state, "ago by what", -100000, x -> x.ago(1, v));
            refused(state, "foretold", -100000, x -> x.foretold(v, true, 0));
            refused(state, "foretold by what", -100000, x -> x.foretold(1, true, v));
            refused(state, "soonest", -2, x -> x.soonest(v));
            refused(state, "fewest", -2, x -> x.fewest(v));
            refused(state, "toAndFro", -1, x -> x.toAndFro(v));
            refused(state, "calm by n", -1, x -> x.calm(v, 1, true));
            refused(state, "calm by b", -1, x -> x.calm(1, v, true));
            refused(state, "dies by text", -2, x -> x.dies(v, 2));
            refused(state, "dies by n", -2, x -> x.dies(0, v));
            refused(state, "calmest", -1, x -> x.calmest(v));
            refused(state, "dayEnds by n", -1, x -> x.dayEnds(v, 0));
            refused(state, "dayEnds by bound", -1, x -> x.dayEnds(1, v));
            refused(state, "saves by one", -100000, x -> x.saves(v, 0, 1));
            refused(state, "saves by other", -100000, x -> x.saves(0, v, 1));
            refused(state, "saves by orders", -100000, x -> x.saves(0, 1, v));
            refused(state, "bar by from", -2, x -> x.bar(v, 1, 1, 1));
            refused(state, "bar by to", -2, x -> x.bar(1, v, 1, 1));
            refused(state, "bar by begin", -2, x -> x.bar(1, 1, v, 1));
            refused(state, "bar by end", -2, x -> x.bar(1, 1, 1, v));
            refused(state, "barred", -1, x -> x.barred(v, true));
            refused(state, "howFar", -1, x -> x.howFar(v));
            refused(state, "first by orders", -1, x -> x.first(v, -1));
            refused(state, "first by i", -1, x -> x.first(1, v));
            refused(state, "twoJibs by orders", -1, x -> x.twoJibs(v, -1));
            refused(state, "twoJibs by order", -1, x -> x.twoJibs(1, v));
            refused(state, "said", -2, x -> x.said(v, true));
            refused(state, "landed by i", -2, x -> x.landed(v, 0));
            refused(state, "landed by what", -2, x -> x.landed(0, v));
            refused(state, "hour", -1, x -> x.hour(v));
            refused(state, "about", -2, x -> x.about(v));
        }
    }

    private static void asks(int state, String what, ToLongFunction<HookSwings> call) {
        HookSwings x = made(state);
        HookSwings twin = made(state);
        long first = call.applyAsLong(x);
        Checks.is(what + " again in state " + state, call.applyAsLong(x), first);
        Checks.same(what + " changes nothing in state " + state, wayBack(x), wayBack(twin));
    }

    private static void asking(int state) {
        asks(state, "jib", x -> x.jib(12));
        asks(state, "ofOrder", x -> x.ofOrder(0, 6));
        asks(state, "ago", x -> x.ago(1, 0));
        asks(state, "fault", x -> x.fault(0));
        asks(state, "foretold", x -> x.foretold(200, true, 1));
        asks(state, "foretold by 0", x -> x.foretold(200, false, 1));
        asks(state, "soonest", x -> x.soonest(-1));
        asks(state, "fewest", x -> x.fewest(-1));
        asks(state, "toAndFro", x -> x.toAndFro(200));
        asks(state, "calm", x -> x.calm(3, 3, false));
        asks(state, "dies", x -> x.dies(1, 200));
        asks(state, "calmest", x -> x.calmest(200));
        asks(state, "whoseHand", x -> x.whoseHand());
        asks(state, "dayEnds", x -> x.dayEnds(200, 9999));
        asks(state, "saves", x -> x.saves(0, 1, 3));
        asks(state, "whenToGo", x -> x.whenToGo());
        asks(state, "whichRope", x -> x.whichRope());
        asks(state, "barred", x -> x.barred(200, true));
        asks(state, "howFar", x -> x.howFar(30));
        asks(state, "over", x -> x.over());
        asks(state, "first", x -> x.first(7, -1));
        asks(state, "twoJibs", x -> x.twoJibs(15, -1));
        asks(state, "left", x -> x.left(true));
        asks(state, "landed", x -> x.landed(-1, 0));
        asks(state, "hour", x -> x.hour(9999));
        asks(state, "mean", x -> x.mean(true));
        asks(state, "about", x -> x.about(2));
    }

    /** What is right but for that there are as many as there can be, or that it is so. */
    private static void full() {
        refused(2, "a 9th order", -1, x -> x.order(1, 0, 0, 0, 0));
        refused(2, "a 5th text", -1, x -> x.text());
        refused(2, "a 5th bar", -2, x -> x.bar(0, 0, 0, 0));
        refused(2, "a 9th said", -2, x -> x.said(5, true));
        refused(2, "the rope that is", 0, x -> bit(x.hoist(5)));
        refused(2, "the goal that is", 0, x -> bit(x.aim(10)));
        refused(2, "8 orders first", -1, x -> x.first(255, -1));
        refused(2, "text 4", 0, x -> bit(x.by(4)));
        refused(2, "played 4", -2, x -> x.played(4));
        refused(2, "one text twice", -100000, x -> x.saves(1, 1, 1));
        refused(2, "played, of which nothing can be", 1, x -> x.played(2));
        HookSwings x = made(2);
        Checks.is("8 ORDERS", x.about(0), 8);
        Checks.is("4 TEXTS", x.about(3), 4);
        Checks.is("8 SAID", x.about(6), 8);
        Checks.is("4 BARS", x.about(9), 4);
        Checks.is("GOAL", x.jib(8), 10);
        x.end(0);
        for (int i = 0; i < 15; i++) {
            x.feed(0x20202020, 0x20202020, 0x20202020, 0x20202020, 0x20202020);
        }
        Checks.is("a full tape", x.feed(0, 0, 0, 0, 0), -1);
        x.back();
        HookSwings y = new HookSwings();
        for (int i = 0; i < 15; i++) {
            y.feed(0x20202020, 0x20202020, 0x20202020, 0x20202020, 0x20202020);
        }
        y.feed(0x7e7e7e7e, 0x7e7e7e7e, 0x7e7e7e7e, 0x7e7e7e7e, 0x7e7e7e7e);
        Checks.is("none came", y.text(), 0);
    }

    /** What is right but for that there is none yet. */
    private static void empty() {
        refused(0, "undo", -1, x -> x.undo());
        refused(0, "by 0", 0, x -> bit(x.by(0)));
        refused(0, "played 0", -2, x -> x.played(0));
        refused(0, "hook 0", 0, x -> bit(x.hook(0)));
        refused(0, "land", -1, x -> x.land());
        refused(0, "end 1", -1, x -> x.end(1));
        refused(0, "ofOrder 0", -1, x -> x.ofOrder(0, 0));
        refused(0, "ago 1", -100000, x -> x.ago(1, 0));
        refused(0, "dies", -2, x -> x.dies(0, 2));
        refused(0, "calmest", -1, x -> x.calmest(2));
        refused(0, "saves", -100000, x -> x.saves(0, 1, 1));
        refused(0, "first", -1, x -> x.first(1, -1));
        refused(0, "twoJibs", -1, x -> x.twoJibs(1, -1));
        refused(0, "landed 0", -2, x -> x.landed(0, 0));
        refused(0, "mean", -1, x -> x.mean(false));
        refused(0, "fault", -1, x -> x.fault(0));
    }

    private static void hooked() {
        refused(1, "hook what is hooked", 0, x -> bit(x.hook(1)));
        refused(1, "hook another one", 0, x -> bit(x.hook(2)));
        refused(1, "hook what landed", 0, x -> bit(x.hook(0)));
        HookSwings still = made(1);
        still.near(0);
        Checks.is("it doesn't hang still", still.jib(10), 0);
        HookSwings twin = made(1);
        twin.near(0);
        Checks.is("land", still.land(), -1);
        Checks.same("land does nothing", wayBack(still), wayBack(twin));
    }

    private static void last() {
        Checks.is("the last TENTH", made(3).jib(9), 9999);
        refused(3, "move", -1, x -> x.move(1));
        refused(3, "run 1", -1, x -> x.run(1));
        refused(3, "run 60", -1, x -> x.run(60));
        refused(3, "storm 1", -1, x -> x.storm(5, 1));
        refused(3, "storm 40", -1, x -> x.storm(5, 40));
        HookSwings x = made(3);
        int orders = x.about(0);
        Checks.is("PLAYED: the run can't be", x.played(1), 2);
        Checks.is("what was done stays", x.about(0), orders + 1);
        Checks.is("no TENTH more", x.jib(9), 9999);
    }
}
