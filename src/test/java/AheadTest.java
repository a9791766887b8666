/** Promises 21 to 36: what would be, which changes nothing. */
public final class AheadTest {
    public static void main(String[] args) {
        foretold();
        foretoldIsWhatComes();
        soonest();
        fewest();
        quickest();
        toAndFro();
        calm();
        dies();
        calmest();
        whoseHand();
        dayEnds();
        saves();
        whenToGo();
        whichRope();
        bars();
        barred();
        howFar();
        over();
        changesNothing();
        Checks.close();
    }

    /** By this law the LOAD is below the TROLLEY at the end of each TENTH. */
    private static final String TIGHT = "swings away-speed;";

    /** At place 1 with pace 0, the LOAD 1 ahead of it: it swings to and fro in 6 TENTHS. */
    private static HookSwings swinging() {
        HookSwings x = new HookSwings();
        x.hoist(1);
        x.move(1);
        x.move(-1);
        return x;
    }

    private static void foretold() {
        HookSwings x = swinging();
        int[] loads = {2, 1, 0, 0, 1, 2};
        for (int n = 1; n <= 6; n++) {
            Checks.is("place", x.foretold(n, false, 0), 1);
            Checks.is("load", x.foretold(n, false, 1), loads[n - 1]);
        }
        Checks.is("greatest away", x.foretold(6, false, 2), 1);
        Checks.is("it hangs still at the first end", x.foretold(6, false, 3), 1);
        x.near(0);
        Checks.is("it never does", x.foretold(200, false, 3), -1);
        x.aim(1);
        Checks.is("it does in 2: away 0, speed -1", x.foretold(200, false, 3), 2);
        Checks.is("not in 1", x.foretold(1, false, 3), -1);
        Checks.is("n 0", x.foretold(0, false, 0), -100000);
        Checks.is("n 201", x.foretold(201, false, 0), -100000);
        Checks.is("what -1", x.foretold(1, false, -1), -100000);
        Checks.is("what 4", x.foretold(1, false, 4), -100000);
        HookSwings y = new HookSwings();
        y.aim(100);
        Checks.is("by the hand", y.foretold(3, true, 0), 6);
        Checks.is("not by the hand", y.foretold(3, false, 0), 0);
        HookSwings z = new HookSwings();
        Checks.is("a new one hangs still in 1", z.foretold(5, false, 3), 1);
    }

    private static void foretoldIsWhatComes() {
        HookSwings x = new HookSwings();
        Checks.text(x, "paces 5;swings (away+wind*3)/rope-ago 2 speed/9;hand goal-pace*9+ago 4 away;");
        x.by(0);
        x.storm(321, 33);
        x.aim(200);
        for (int n = 1; n <= 60; n += 7) {
            int place = x.foretold(n, true, 0);
            int load = x.foretold(n, true, 1);
            x.image();
            Checks.is("place behind " + n, x.run(n), place);
            Checks.is("load behind " + n, x.jib(2), load);
            x.back();
        }
    }

    private static HookSwings tight(int goal) {
        HookSwings x = new HookSwings();
        Checks.text(x, TIGHT);
        x.by(0);
        x.near(0);
        x.aim(goal);
        return x;
    }

    private static void commands(String what, HookSwings x, boolean sparing, int many, int... due) {
        Checks.is(what + ": how many", sparing ? x.fewest(-1) : x.soonest(-1), many);
        for (int i = 0; i < due.length; i++) {
            Checks.is(what + ": command " + i, sparing ? x.fewest(i) : x.soonest(i), due[i]);
        }
        Checks.is(what + ": no more", sparing ? x.fewest(due.length) : x.soonest(due.length), -2);
        Checks.is(what + ": -2", sparing ? x.fewest(-2) : x.soonest(-2), -2);
        Checks.is(what + ": 7", sparing ? x.fewest(7) : x.soonest(7), -2);
        Checks.is(what + ": far off", sparing ? x.fewest(1 << 30) : x.soonest(1 << 30), -2);
    }

    private static void soonest() {
        commands("still now", new HookSwings(), false, 0);
        commands("to 4", tight(4), false, 4, 1, 1, -1, -1);
        commands("to 5, the lowest", tight(5), false, 5, 1, 0, 1, -1, -1);
        commands("to 12", tight(12), false, 7, 1, 1, 1, 0, -1, -1, -1);
        commands("to 13", tight(13), false, -2);
        commands("far off", tight(600), false, -2);
        HookSwings x = new HookSwings();
        x.aim(3);
        commands("near enough", x, false, 2, 1, -1);
        HookSwings y = tight(0);
        y.aim(1);
        y.move(1);
        y.aim(0);
        commands("back against the end: -1 and -1, then 0", y, false, 3, -1, -1, -1);
    }

    private static void fewest() {
        commands("still now", new HookSwings(), true, 0);
        commands("to 4", tight(4), true, 2, 1, 0, 0, 0, -1);
        commands("to 6", tight(6), true, 2, 1, 0, 0, 0, 0, 0, -1);
        commands("to 7, the lowest", tight(7), true, 4, 1, 0, 1, 0, -1, -1);
        commands("to 13", tight(13), true, -2);
        HookSwings x = tight(1);
        x.move(1);
        x.aim(6);
        commands("on its way", x, true, 1, 0, 0, 0, 0, 0, -1);
    }

    /** As quick as can be against the end of the jib, with the LOAD there already. */
    private static void quickest() {
        HookSwings x = new HookSwings();
        Checks.text(x, "paces 9;" + TIGHT);
        Checks.text(x, "paces 9;swings 0-speed;");
        x.near(0);
        x.by(0);
        x.aim(600);
        x.run(60);
        x.run(60);
        x.by(1);
        Checks.is("the load is at the end", x.jib(2), 600);
        x.move(-1);
        for (int i = 0; i < 106; i++) {
            x.move(0);
        }
        x.move(1);
        for (int i = 0; i < 9; i++) {
            x.move(1);
        }
        Checks.is("62 from the end", x.jib(0), 538);
        commands("soonest", x, false, 7, 0, 0, 0, 0, 0, 0, 0);
        commands("fewest", x, true, 0, 0, 0, 0, 0, 0, 0, 0);
    }

    private static void toAndFro() {
        HookSwings x = swinging();
        Checks.is("in 9", x.toAndFro(9), 6);
        Checks.is("in 200", x.toAndFro(200), 6);
        Checks.is("in 8", x.toAndFro(8), -1);
        Checks.is("in 2", x.toAndFro(2), -1);
        Checks.is("in 1", x.toAndFro(1), -1);
        Checks.is("in 201", x.toAndFro(201), -1);
        Checks.is("a new one", new HookSwings().toAndFro(200), -1);
    }

    private static void odds(int n, int b, long upper, long lower) {
        HookSwings x = new HookSwings();
        Checks.is("calm " + n + ", " + b, x.calm(n, b, false), upper);
        Checks.is("calm " + n + ", " + b + " low", x.calm(n, b, true), lower);
    }

    private static void calm() {
        odds(1, 0, 1, 10);
        odds(1, 9, 1, 1);
        odds(2, 4, 1, 4);
        odds(3, 2, 27, 1000);
        odds(9, 0, 1, 1000000000);
        odds(9, 8, 387420489, 1000000000);
        odds(9, 7, 262144, 1953125);
        odds(0, 0, -1, -1);
        odds(10, 0, -1, -1);
        odds(1, -1, -1, -1);
        odds(1, 10, -1, -1);
    }

    private static void dies() {
        HookSwings x = new HookSwings();
        Checks.text(x, "hand 0;swings 99;");
        Checks.text(x, "swings 1;");
        Checks.text(x, "swings 9;");
        Checks.text(x, "swings away/2-speed;hand 1;paces 9;");
        Checks.is("nothing swings", x.dies(0, 2), 0);
        x.by(1);
        Checks.is("it grows", x.dies(0, 2), 1);
        Checks.is("without a law of the hand", x.dies(1, 200), 1);
        x.by(2);
        x.move(0);
        x.by(3);
        Checks.is("it dies", x.dies(0, 2), -1);
        Checks.is("by the other hand it doesn't", x.dies(3, 8), 1);
        Checks.is("odd", x.dies(0, 3), -2);
        Checks.is("0", x.dies(0, 0), -2);
        Checks.is("202", x.dies(0, 202), -2);
        Checks.is("-2", x.dies(0, -2), -2);
        Checks.is("text 4", x.dies(4, 2), -2);
        Checks.is("text -1", x.dies(-1, 2), -2);
    }

    private static void calmest() {
        HookSwings x = new HookSwings();
        Checks.is("no texts", x.calmest(2), -1);
        Checks.text(x, "hand 1;");
        Checks.text(x, "hand 0;");
        Checks.text(x, "hand goal;");
        Checks.is("it stays", x.calmest(2), 1);
        Checks.is("200", x.calmest(200), 1);
        x.aim(300);
        x.by(1);
        Checks.is("by the text's own hand", x.calmest(10), 1);
        x.move(1);
        Checks.is("in so short a time", x.calmest(2), 1);
        Checks.is("0", x.calmest(0), -1);
        Checks.is("202", x.calmest(202), -1);
        Checks.is("odd", x.calmest(3), -1);
        HookSwings y = new HookSwings();
        Checks.text(y, "hand 1;swings away;");
        Checks.text(y, "hand 2;");
        Checks.is("of like ones the lowest", y.calmest(20), 0);
    }

    private static void whoseHand() {
        HookSwings x = new HookSwings();
        Checks.text(x, "hand 1;");
        Checks.text(x, "hand goal;");
        Checks.text(x, "");
        Checks.text(x, "hand if ago 1 pace=0 then 1 else 0 end;");
        Checks.is("nothing kept", x.whoseHand(), 15);
        x.image();
        x.aim(10);
        x.move(1);
        x.move(1);
        Checks.is("all out", x.whoseHand(), 15);
        x.move(0);
        Checks.is("just the one that asks what was", x.whoseHand(), 8);
        x.back();
        x.move(0);
        Checks.is("on, at the goal", x.whoseHand(), 6);
        x.back();
        x.move(-1);
        Checks.is("nobody", x.whoseHand(), 0);
        HookSwings y = new HookSwings();
        Checks.text(y, "hand rope-weight;");
        y.order(9, 0, 9, 9, 0);
        y.move(1);
        Checks.is("rope and weight as now", y.whoseHand(), 1);
        y.hook(0);
        Checks.is("the weight as now", y.whoseHand(), 0);
        y.hoist(24);
        Checks.is("the rope as now", y.whoseHand(), 1);
        Checks.is("no texts", new HookSwings().whoseHand(), 0);
        HookSwings z = new HookSwings();
        Checks.text(z, "hand if ago 1 goal=0 then 0-1 else 0 end;");
        z.aim(600);
        z.run(1);
        for (int i = 0; i < 60; i++) {
            z.move(0);
        }
        Checks.is("of the eldest nothing was kept ahead of it", z.whoseHand(), 0);
        z.move(0);
        z.by(0);
        Checks.is("the eldest gave 0", z.whoseHand(), 0);
    }

    private static void dayEnds() {
        HookSwings x = new HookSwings();
        Checks.text(x, "swings wind;");
        x.by(0);
        Checks.is("3 winds above 5", x.dayEnds(2, 5), 2);
        Checks.is("27 above 26", x.dayEnds(2, 26), 9);
        Checks.is("27 above 27", x.dayEnds(2, 27), -1);
        Checks.is("1 above 0", x.dayEnds(1, 0), 1);
        Checks.is("one of the tenths is enough", x.dayEnds(200, 9998), 1);
        Checks.is("bound 9999", x.dayEnds(1, 9999), -1);
        Checks.is("bound 10000", x.dayEnds(200, 10000), -1);
        Checks.is("bound -1", x.dayEnds(1, -1), -1);
        Checks.is("n 0", x.dayEnds(0, 0), -1);
        Checks.is("n 201", x.dayEnds(201, 0), -1);
        HookSwings y = new HookSwings();
        Checks.text(y, "paces 9;swings 0-99;hand 1;");
        y.by(0);
        y.run(60);
        y.run(60);
        Checks.is("the load is 10599 behind", y.jib(4), 10599);
        Checks.is("bound 9999 is told", y.dayEnds(1, 9999), 1);
        Checks.is("bound 10000 isn't", y.dayEnds(1, 10000), -1);
        x.image();
        x.storm(0, 39);
        Checks.is("no gust while it stands", x.dayEnds(1, 9998), -1);
        x.back();
        x.run(38);
        Checks.is("it stands through a gust", x.dayEnds(9, 9 * 45 - 1), 9);
        Checks.is("and is no greater", x.dayEnds(9, 9 * 45), -1);
    }

    private static void saves() {
        HookSwings x = new HookSwings();
        Checks.text(x, TIGHT);
        Checks.text(x, "hand if weight=7 then 0 else 1 end;paces 0;");
        Checks.text(x, "hand 1;");
        Checks.text(x, "hand if goal>2 then 1-pace else 0-pace end;");
        x.by(0);
        Checks.is("no orders", x.saves(1, 2, 0), -100000);
        x.order(7, 0, 9, 9, 0);
        x.order(8, 1, 9, 9, 1);
        x.storm(4, 40);
        Checks.is("200 less 1", x.saves(1, 2, 1), 199);
        Checks.is("1 less 200", x.saves(2, 1, 1), -199);
        Checks.is("200 less 9", x.saves(3, 2, 2), 191);
        Checks.is("both", x.saves(3, 2, 3), 390);
        Checks.is("1 and 200, 1 and 9", x.saves(3, 1, 3), 191);
        Checks.is("the same", x.saves(1, 1, 1), -100000);
        Checks.is("no orders in it", x.saves(1, 2, 0), -100000);
        Checks.is("no such order", x.saves(1, 2, 4), -100000);
        Checks.is("an order and no such one", x.saves(1, 2, 5), -100000);
        Checks.is("-1", x.saves(1, 2, -1), -100000);
        Checks.is("text -1", x.saves(-1, 2, 1), -100000);
        Checks.is("text 4", x.saves(1, 4, 1), -100000);
        HookSwings y = new HookSwings();
        Checks.text(y, "hand if ago 1 wind>0 or wind>0 or ago 1 speed#0 or ago 2 pace#0 or rope#9 then 1 else 0 end;");
        Checks.text(y, "hand 1;");
        y.order(5, 0, 9, 9, 0);
        y.storm(3, 40);
        y.hoist(9);
        Checks.is("it swings in the wind", y.jib(7) > 0 && y.jib(3) != 0, true);
        y.foretold(9, true, 0);
        Checks.is("from rest, nothing kept, no wind, the rope as now", y.saves(0, 1, 1), 199);
        HookSwings z = new HookSwings();
        Checks.text(z, "hand if goal<31 and wind=0 then 0-pace else 1-pace end;paces 9;");
        Checks.text(z, "hand 1;");
        Checks.text(z, TIGHT);
        z.order(5, 10, 9, 9, 0);
        z.by(2);
        z.near(30);
        Checks.is("no gust in 71 tenths", z.saves(0, 1, 1), 200 - 71);
    }

    private static void whenToGo() {
        HookSwings x = new HookSwings();
        Checks.is("it is there", x.whenToGo(), 0);
        Checks.text(x, "hand if wind>0 then 1 else 0-pace end;");
        Checks.text(x, "hand 1;");
        x.run(40);
        Checks.is("a gust", x.jib(7), 9);
        Checks.is("by no law", x.whenToGo(), 0);
        x.by(0);
        Checks.is("of like ones the least", x.whenToGo(), 8);
        x.near(0);
        Checks.is("when the wind is gone", x.whenToGo(), 9);
        x.by(1);
        Checks.is("never", x.whenToGo(), -1);
        HookSwings y = new HookSwings();
        Checks.text(y, "paces 1;hand if goal=0 then 0-pace else 1-pace end;" + TIGHT);
        y.by(0);
        y.near(0);
        y.aim(199);
        Checks.is("200 in all", y.whenToGo(), 0);
        y.aim(200);
        Checks.is("201 are too many", y.whenToGo(), -1);
        HookSwings z = tight(61);
        Checks.text(z, TIGHT + "hand if goal=0 then 0-pace else 1 end;");
        z.by(1);
        z.move(1);
        Checks.is("60 are not too long", z.whenToGo(), 60);
        z.aim(62);
        Checks.is("61 are too long", z.whenToGo(), -1);
    }

    private static void whichRope() {
        HookSwings x = new HookSwings();
        Checks.is("all alike", x.whichRope(), 1);
        Checks.text(x, "hand if rope=7 then 0 else 1 end;");
        Checks.text(x, "hand if rope>16 then 0 else 1 end;");
        Checks.text(x, "hand if rope=9 then 0 else if rope#4 then 1 else if goal=0 then 1 else 0-pace end end end;");
        Checks.text(x, "hand 1;");
        x.by(0);
        Checks.is("7", x.whichRope(), 7);
        x.by(1);
        Checks.is("the least", x.whichRope(), 17);
        x.by(2);
        Checks.is("the soonest", x.whichRope(), 9);
        x.by(3);
        Checks.is("none", x.whichRope(), -1);
        Checks.is("rope stays", x.jib(5), 5);
        HookSwings y = new HookSwings();
        Checks.text(y, "paces 1;hand if goal=0 then 0-pace else 1-pace end;" + TIGHT);
        Checks.text(y, "hand if rope=24 then 0 else 1 end;");
        y.by(1);
        Checks.is("24", y.whichRope(), 24);
        y.by(0);
        y.near(0);
        y.aim(199);
        Checks.is("in 200", y.whichRope(), 1);
        y.aim(200);
        Checks.is("201 are too many", y.whichRope(), -1);
    }

    private static void bars() {
        HookSwings x = new HookSwings();
        Checks.is("least", x.bar(0, 0, 0, 0), 1);
        Checks.is("most", x.bar(600, 600, 9999, 9999), 2);
        int[][] wrong = {{-2, 5, 0, 0}, {5, 4, 0, 0}, {0, 601, 0, 0}, {601, 601, 0, 0}, {0, 0, -1, 0}, {0, 0, 5, 4},
            {0, 0, 0, 10000}, {0, 0, 10000, 10000}, {0, -1, 0, 0}, {0, 0, 0, -1}};
        for (int[] w : wrong) {
            Checks.is("wrong bar", x.bar(w[0], w[1], w[2], w[3]), -2);
        }
        Checks.is("third", x.bar(0, 600, 0, 9999), 3);
        Checks.is("fourth", x.bar(0, 600, 0, 9999), 4);
        Checks.is("fifth", x.bar(0, 600, 0, 9999), -2);
        Checks.is("bars", x.about(9), 4);
        Checks.is("none any more", x.bar(-1, 9999, -5, 99999), 0);
        Checks.is("no bars", x.about(9), 0);
    }

    private static void barred() {
        HookSwings x = new HookSwings();
        x.move(1);
        Checks.is("without bars", x.barred(200, false), -1);
        x.bar(4, 4, 0, 9999);
        Checks.is("at 4", x.barred(5, false), 3);
        Checks.is("at 4, in 3", x.barred(3, false), 3);
        Checks.is("not in 2", x.barred(2, false), -1);
        x.bar(-1, 0, 0, 0);
        x.bar(4, 4, 5, 9);
        Checks.is("at 4 it is but tenth 4", x.barred(9, false), -1);
        x.bar(4, 4, 4, 4);
        Checks.is("barred then", x.barred(9, false), 3);
        x.bar(1, 1, 0, 9999);
        Checks.is("where it is now", x.barred(9, false), 3);
        x.bar(600, 600, 0, 9999);
        Checks.is("by the hand: back to 1", x.barred(9, true), 1);
        Checks.is("0", x.barred(0, false), -1);
        Checks.is("201", x.barred(201, false), -1);
        Checks.is("-1", x.barred(-1, true), -1);
    }

    private static void howFar() {
        HookSwings x = new HookSwings();
        Checks.text(x, "holds if yard=5 then 3 else 50 end;");
        Checks.text(x, "holds 500;");
        Checks.text(x, "holds 0-5;");
        Checks.is("60", x.howFar(60), 0);
        Checks.is("1", x.howFar(1), 59);
        Checks.is("61", x.howFar(61), -1);
        x.by(0);
        Checks.is("each nearer one", x.howFar(4), 4);
        Checks.is("all", x.howFar(3), 60);
        Checks.is("none", x.howFar(51), -1);
        x.by(1);
        Checks.is("99 at most", x.howFar(99), 60);
        Checks.is("100", x.howFar(100), -1);
        x.by(2);
        Checks.is("holds nothing", x.howFar(1), -1);
        Checks.is("0", x.howFar(0), -1);
    }

    private static void over() {
        HookSwings x = new HookSwings();
        Checks.is("no orders", x.over(), 0);
        x.order(61, 0, 0, 0, 0);
        x.order(60, 0, 0, 0, 0);
        x.order(1, 60, 0, 0, 0);
        x.order(1, 59, 0, 0, 0);
        Checks.is("over", x.over(), 5);
        Checks.text(x, "holds yard;");
        x.by(0);
        Checks.is("over by a law", x.over(), 3);
    }

    private static void changesNothing() {
        HookSwings x = new HookSwings();
        Checks.text(x, "paces 6;swings (away-wind)/rope;hand goal-ago 3 away;lasts weight;");
        Checks.text(x, "hand wind-2;");
        x.by(0);
        x.near(9);
        x.order(9, 9, 99, 9, 0);
        x.order(8, 8, 88, 8, 1);
        x.bar(5, 500, 0, 9999);
        x.said(3, true);
        x.storm(1234, 40);
        x.hook(0);
        x.run(45);
        String seen = Checks.seen(x);
        x.foretold(200, true, 0);
        x.foretold(200, false, 0);
        x.soonest(-1);
        x.fewest(-1);
        x.toAndFro(200);
        x.calm(2, 2, true);
        x.dies(1, 200);
        x.calmest(200);
        x.whoseHand();
        x.dayEnds(200, 9999);
        x.saves(0, 1, 3);
        x.whenToGo();
        x.whichRope();
        x.barred(200, true);
        x.howFar(5);
        x.over();
        x.first(3, -1);
        x.twoJibs(3, -1);
        x.left(true);
        x.hour(9);
        x.mean(true);
        Checks.same("all as before", Checks.seen(x), seen);
    }
}
