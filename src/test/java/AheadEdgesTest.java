/** "==== III." and promises 21 to 36: each told range at its last value and just beyond it, none, and like ones. */
public final class AheadEdgesTest {
    /** By this law the LOAD is below the TROLLEY at the end of each TENTH. */
    private static final String TIGHT = "swings away-speed;";
    /** At 1 a TENTH, and still at the GOAL. */
    private static final String STEADY = "paces 1;hand if goal=0 then 0-pace else 1-pace end;";
    private static final int FAR_OFF = -100000;

    public static void main(String[] args) {
        foretoldRange();
        foretoldGreatest();
        foretoldStill();
        foretoldBeyond9999();
        soonestInSeven();
        soonestAsked();
        soonestStillNow();
        soonestOfLikeOnes();
        fewestInSeven();
        fewestAllSeven();
        fewestOfLikeOnes();
        toAndFroRange();
        toAndFroIn200();
        calm();
        diesRange();
        diesHalves();
        calmestRange();
        calmestOfLikeOnes();
        handWithoutLaw();
        whoseHandKept();
        whoseHandAgo();
        whoseHandNames();
        dayEndsRange();
        dayEndsWind();
        savesRange();
        savesTenths();
        savesFromRest();
        whenToGoWaits();
        whenToGoInAll();
        whichRopeRange();
        bars();
        barredRange();
        barredEdges();
        barredBeyond9999();
        howFar();
        over();
        Checks.close();
    }

    private static HookSwings ruled(String text) {
        HookSwings x = new HookSwings();
        Checks.is("text '" + text + "'", Checks.text(x, text), 0);
        x.by(0);
        return x;
    }

    /** At PLACE 1 in TENTH 1 with PACE 1 and GOAL 300, by a text: at the end of TENTH k PLACE is 1 + k. */
    private static HookSwings rolling(String text) {
        HookSwings x = ruled(text);
        x.aim(300);
        x.move(1);
        return x;
    }

    /** AWAY is a told one at the end of the k-th TENTH of one that is rolling, else 0. */
    private static String spike(int k, int away) {
        return "swings away-speed-if goal=" + (299 - k) + " then " + away + " else 0 end;";
    }

    /** At TENTH 9960. */
    private static HookSwings late(String text) {
        HookSwings x = ruled(text);
        for (int i = 0; i < 166; i++) {
            x.run(60);
        }
        return x;
    }

    private static void foretoldRange() {
        HookSwings x = rolling(TIGHT + "hand 0-1;");
        Checks.is("1", x.foretold(1, false, 0), 2);
        Checks.is("200", x.foretold(200, false, 0), 201);
        Checks.is("200: the LOAD", x.foretold(200, false, 1), 201);
        Checks.is("1 by the hand", x.foretold(1, true, 0), 1);
        Checks.is("200 by the hand", x.foretold(200, true, 0), 0);
        int[] wrong = {0, -1, 201, 1000, Integer.MIN_VALUE, Integer.MAX_VALUE};
        for (int n : wrong) {
            for (int what = 0; what <= 3; what++) {
                Checks.is("n " + n, x.foretold(n, what % 2 == 0, what), FAR_OFF);
            }
        }
        Checks.is("what -1", x.foretold(1, false, -1), FAR_OFF);
        Checks.is("what 4", x.foretold(1, false, 4), FAR_OFF);
    }

    private static void foretoldGreatest() {
        HookSwings x = ruled("swings 0-40;");
        Checks.text(x, TIGHT);
        x.move(0);
        Checks.is("AWAY now", x.jib(4), 40);
        x.by(1);
        Checks.is("what is now doesn't count", x.foretold(1, false, 2), 0);
        int[] aways = {7, -7};
        for (int away : aways) {
            HookSwings y = rolling(spike(5, 7).replace(away < 0 ? "speed-if" : "#", away < 0 ? "speed+if" : "#"));
            Checks.is("ahead of it", y.foretold(4, false, 2), 0);
            Checks.is("at the end of the 5th", y.foretold(5, false, 2), 7);
            Checks.is("behind it", y.foretold(6, false, 2), 7);
        }
        HookSwings z = rolling(spike(200, 9));
        Checks.is("199", z.foretold(199, false, 2), 0);
        Checks.is("200", z.foretold(200, false, 2), 9);
    }

    private static void foretoldStill() {
        HookSwings x = new HookSwings();
        Checks.is("at the end of the first", x.foretold(1, false, 3), 1);
        HookSwings y = ruled(STEADY + TIGHT);
        y.near(0);
        y.aim(199);
        Checks.is("in 200", y.foretold(200, true, 3), 200);
        Checks.is("not in 199", y.foretold(199, true, 3), -1);
        Checks.is("not with COMMAND 0", y.foretold(200, false, 3), -1);
        y.aim(200);
        Checks.is("not in 200", y.foretold(200, true, 3), -1);
        y.aim(5);
        Checks.is("first", y.foretold(200, true, 3), 6);
    }

    private static void foretoldBeyond9999() {
        HookSwings x = late("swings wind-speed;");
        x.run(39);
        Checks.is("9999", x.jib(9), 9999);
        Checks.is("WIND 0", x.jib(7), 0);
        int draw = x.about(2) % 10;
        Checks.is("a draw at 10000", x.foretold(2, false, 1), x.jib(2) + draw);
        Checks.is("200", x.foretold(200, false, 0), 0);
        Checks.is("X stays", x.about(2) % 10, draw);
        x.by(-1);
        x.near(0);
        Checks.is("by hand", x.move(0), -1);
    }

    private static HookSwings tight(int goal) {
        HookSwings x = ruled(TIGHT);
        x.near(0);
        x.aim(goal);
        return x;
    }

    private static void soonest(String what, HookSwings x, int... due) {
        Checks.is(what + ": how many", x.soonest(-1), due.length);
        for (int i = 0; i < due.length; i++) {
            Checks.is(what + ": " + i, x.soonest(i), due[i]);
        }
        Checks.is(what + ": none such", x.soonest(due.length), -2);
    }

    private static void fewest(String what, HookSwings x, int many, int... due) {
        Checks.is(what + ": how many", x.fewest(-1), many);
        for (int i = 0; i < due.length; i++) {
            Checks.is(what + ": " + i, x.fewest(i), due[i]);
        }
        Checks.is(what + ": none such", x.fewest(due.length), -2);
    }

    private static void nothing(String what, HookSwings x) {
        for (int i = -2; i <= 8; i++) {
            Checks.is(what + ": soonest " + i, x.soonest(i), -2);
            Checks.is(what + ": fewest " + i, x.fewest(i), -2);
        }
    }

    private static void soonestInSeven() {
        soonest("7", tight(12), 1, 1, 1, 0, -1, -1, -1);
        nothing("8 would be too many", tight(13));
        soonest("6", tight(9), 1, 1, 1, -1, -1, -1);
        soonest("2", tight(1), 1, -1);
        nothing("far off", tight(600));
    }

    private static void soonestAsked() {
        HookSwings x = tight(1);
        int[] wrong = {-3, -2, 2, 3, 6, 7, 8, Integer.MIN_VALUE, Integer.MAX_VALUE};
        for (int i : wrong) {
            Checks.is("soonest " + i, x.soonest(i), -2);
            Checks.is("fewest " + i, x.fewest(i), -2);
        }
    }

    private static void soonestStillNow() {
        HookSwings x = new HookSwings();
        soonest("still now", x);
        fewest("still now", x, 0);
        x.aim(2);
        soonest("NEAR enough", x);
        x.aim(3);
        soonest("not NEAR enough", x, 1, -1);
    }

    private static void soonestOfLikeOnes() {
        soonest("-1 ahead of 0", tight(5), 1, 0, 1, -1, -1);
        // In one TENTH it stops by -1, whatever comes; against the end -1, 0 and 1 may all do.
        HookSwings x = ruled("paces 0;" + TIGHT);
        x.near(0);
        Checks.text(x, "swings 5;paces 0;");
        x.by(1);
        x.move(0);
        x.by(0);
        soonest("each COMMAND does: the lowest", x, -1, -1);
        fewest("each COMMAND does: 0", x, 0, 0, 0);
    }

    private static void fewestInSeven() {
        fewest("7 TENTHS", tight(6), 2, 1, 0, 0, 0, 0, 0, -1);
        fewest("8 would be too many", tight(7), 4, 1, 0, 1, 0, -1, -1);
        fewest("all 7", tight(12), 6, 1, 1, 1, 0, -1, -1, -1);
    }

    /** By this law a COMMAND of 0 behind another one spoils all, so that none of the 7 can be 0. */
    private static void fewestAllSeven() {
        HookSwings x = tight(14);
        Checks.text(x, "swings if (pace-ago 1 pace)/2*2=pace-ago 1 pace and size away<50 then away-speed else 99 end;");
        x.move(1);
        x.by(1);
        soonest("none is 0", x, 1, 1, -1, 1, -1, -1, -1);
        fewest("none is 0", x, 7, 1, 1, -1, 1, -1, -1, -1);
        x.aim(15);
        nothing("15 is too far", x);
    }

    private static void fewestOfLikeOnes() {
        fewest("two alone", tight(1), 2, 1, -1);
        fewest("the fewest TENTHS", tight(2), 2, 1, 0, -1);
        HookSwings x = tight(3);
        fewest("the fewest, then the lowest", x, 2, 1, 0, 0, -1);
        soonest("in as many", x, 1, 0, 0, -1);
    }

    private static void toAndFroRange() {
        HookSwings x = ruled("swings if speed=0 then 0-1 else 0-2*speed end;");
        Checks.is("AWAY 0 now", x.jib(4), 0);
        Checks.is("AWAY 1 then", x.foretold(1, false, 2), 1);
        Checks.is("2", x.toAndFro(2), -1);
        Checks.is("3", x.toAndFro(3), 2);
        Checks.is("4", x.toAndFro(4), 2);
        Checks.is("200", x.toAndFro(200), 2);
        int[] wrong = {1, 0, -1, 201, Integer.MAX_VALUE, Integer.MIN_VALUE};
        for (int n : wrong) {
            Checks.is("n " + n, x.toAndFro(n), -1);
        }
        x.move(0);
        Checks.is("AWAY is above 0 now", x.jib(4), 1);
        Checks.is("so the first one comes later: not in 3", x.toAndFro(3), -1);
        Checks.is("in 4", x.toAndFro(4), 2);
        // From 0 to -1 and back to 0 it is never above 0.
        HookSwings y = ruled("swings if speed=0 then 1 else 0-2*speed end;");
        Checks.is("AWAY -1 then", y.foretold(1, false, 1), 1);
        Checks.is("never above 0", y.toAndFro(200), -1);
    }

    private static void toAndFroIn200() {
        HookSwings x = rolling("swings away-speed-if goal=298 or goal=99 then 1 else 0 end;");
        Checks.is("the second is the 200th", x.toAndFro(200), 199);
        Checks.is("not in 199", x.toAndFro(199), -1);
        HookSwings y = rolling("swings away-speed-if goal=298 or goal=98 then 1 else 0 end;");
        Checks.is("the second is the 201st", y.toAndFro(200), -1);
    }

    private static void odds(int n, int b, long upper, long lower) {
        HookSwings x = new HookSwings();
        Checks.is("upper of " + n + ", " + b, x.calm(n, b, false), upper);
        Checks.is("lower of " + n + ", " + b, x.calm(n, b, true), lower);
    }

    private static void calm() {
        odds(1, 0, 1, 10);
        odds(1, 4, 1, 2);
        odds(1, 8, 9, 10);
        odds(1, 9, 1, 1);
        odds(9, 9, 1, 1);
        odds(9, 0, 1, 1000000000);
        odds(9, 1, 1, 1953125);
        odds(9, 8, 387420489, 1000000000);
        odds(2, 5, 9, 25);
        int[][] wrong = {{0, 5}, {-1, 5}, {10, 5}, {5, -1}, {5, 10}, {0, 10}, {Integer.MAX_VALUE, 5}, {5, Integer.MIN_VALUE}};
        for (int[] w : wrong) {
            odds(w[0], w[1], -1, -1);
        }
    }

    private static void diesRange() {
        HookSwings x = new HookSwings();
        Checks.is("no TEXT", x.dies(0, 2), -2);
        for (int t = 0; t < 4; t++) {
            Checks.is("no TEXT " + t, x.dies(t, 2), -2);
            Checks.text(x, "hand 0;");
            Checks.is("TEXT " + t, x.dies(t, 2), 0);
        }
        Checks.is("TEXT 4", x.dies(4, 2), -2);
        Checks.is("TEXT -1", x.dies(-1, 2), -2);
        int[] wrong = {0, 1, 3, 199, 201, 202, -2, Integer.MIN_VALUE, Integer.MAX_VALUE};
        for (int n : wrong) {
            Checks.is("n " + n, x.dies(0, n), -2);
        }
        Checks.is("n 200", x.dies(0, 200), 0);
        Checks.is("n 4", x.dies(0, 4), 0);
    }

    private static void diesHalves() {
        int[] spans = {2, 4, 200};
        for (int n : spans) {
            int[] at = {1, n / 2, n / 2 + 1, n, n + 1};
            int[] due = {-1, -1, 1, 1, 0};
            for (int i = 0; i < at.length; i++) {
                HookSwings x = rolling(spike(at[i], 5) + "hand 0;");
                Checks.is("AWAY at the end of " + at[i] + " of " + n, x.dies(0, n), due[i]);
            }
        }
        HookSwings y = ruled("swings 0-40;");
        Checks.text(y, TIGHT + "hand 0;");
        y.move(0);
        y.by(1);
        Checks.is("AWAY at the beginning doesn't count", y.dies(1, 2), 0);
        HookSwings z = ruled("swings 0-1-speed;hand 0;");
        Checks.is("1, then 2: it grows", z.dies(0, 2), 1);
        HookSwings u = ruled("swings if speed=0 then 0-4 else 0-2*speed end;hand 0;");
        Checks.is("4, then 0: it dies", u.dies(0, 2), -1);
        Checks.is("4 and 0, then 4 and 0", u.dies(0, 4), 0);
        int[] at = {1, 2};
        for (int k : at) {
            HookSwings one = rolling(spike(k, 1) + "hand 0;");
            Checks.is("1 is more than 0", one.dies(0, 2), k == 1 ? -1 : 1);
        }
        HookSwings v = ruled("swings if away=0 then 3 else 0-speed*2 end;hand 0;");
        Checks.is("its size, also below 0", v.foretold(1, false, 2), 3);
        Checks.is("-3, then 0: it dies", v.dies(0, 2), -1);
    }

    private static void calmestRange() {
        HookSwings x = new HookSwings();
        Checks.is("none without TEXTS", x.calmest(2), -1);
        Checks.is("none in 200", x.calmest(200), -1);
        Checks.text(x, "");
        Checks.is("one", x.calmest(2), 0);
        Checks.is("200", x.calmest(200), 0);
        int[] wrong = {0, 1, 3, 199, 201, 202, -2, Integer.MIN_VALUE, Integer.MAX_VALUE};
        for (int n : wrong) {
            Checks.is("n " + n, x.calmest(n), -1);
        }
    }

    private static void calmestOfLikeOnes() {
        HookSwings x = new HookSwings();
        Checks.text(x, "hand if goal=100 then 1 else 0 end;");
        Checks.text(x, "hand 0;");
        Checks.text(x, "hand 0;");
        Checks.text(x, "swings away-speed-if pace>1 then 5 else 0 end;hand 1;");
        x.by(3);
        x.aim(300);
        x.move(1);
        Checks.is("in 198 all but the last are alike: the lowest", x.calmest(198), 0);
        Checks.is("in the 200th the first swings: the lowest of others", x.calmest(200), 1);
        HookSwings y = new HookSwings();
        for (int i = 0; i < 4; i++) {
            Checks.text(y, "hand 1;swings away" + "*2".repeat(i) + ";");
        }
        y.by(2);
        Checks.is("but for the law of hand they are alike", y.calmest(100), 0);
    }

    /** A TEXT without a law of hand has the hand of none: towards the GOAL. */
    private static void handWithoutLaw() {
        HookSwings x = ruled("hand 0-1;swings 0-speed;");
        Checks.text(x, "");
        x.aim(600);
        Checks.is("out: AWAY grows", x.dies(1, 2), 1);
        Checks.is("in: it stays", x.dies(0, 2), 0);
        Checks.is("calmest", x.calmest(2), 0);
        x.move(1);
        Checks.is("whose hand", x.whoseHand(), 2);
    }

    private static void whoseHandKept() {
        HookSwings x = new HookSwings();
        Checks.is("no TEXTS", x.whoseHand(), 0);
        Checks.text(x, "hand 0;");
        Checks.is("nothing kept: all", x.whoseHand(), 1);
        Checks.text(x, "hand 1;");
        Checks.text(x, "");
        Checks.text(x, "hand 0-1;");
        Checks.is("nothing kept: all 4", x.whoseHand(), 15);
        x.move(1);
        Checks.is("1", x.whoseHand(), 2);
        for (int i = 0; i < 59; i++) {
            x.move(0);
        }
        Checks.is("60 kept", x.about(7), 60);
        Checks.is("the 60th ago was another one", x.whoseHand(), 0);
        x.move(0);
        Checks.is("it isn't kept any more", x.whoseHand(), 1);
        x.undo();
        Checks.is("it is again", x.whoseHand(), 0);
    }

    private static void whoseHandAgo() {
        // Of the eldest TENTH that is kept, what was ahead of it isn't: 0 there.
        HookSwings x = new HookSwings();
        Checks.text(x, "hand ago 1 goal-1;");
        Checks.text(x, "hand if ago 1 goal=0 then 0-1 else 0 end;");
        x.aim(1);
        for (int i = 0; i < 61; i++) {
            x.move(0);
        }
        Checks.is("GOAL 1 ago was 1, but of the eldest 0", x.whoseHand(), 0);
        HookSwings y = new HookSwings();
        Checks.text(y, "hand ago 1 goal-1;");
        y.aim(1);
        y.move(-1);
        for (int i = 0; i < 59; i++) {
            y.move(0);
        }
        Checks.is("ahead of the first nothing was kept, either", y.whoseHand(), 1);
        y.move(0);
        Checks.is("now the eldest gave 0", y.whoseHand(), 0);
        HookSwings z = new HookSwings();
        Checks.text(z, "hand ago 9 goal;");
        z.aim(5);
        for (int i = 0; i < 9; i++) {
            z.move(0);
        }
        Checks.is("9 of which nothing is kept 9 ago", z.whoseHand(), 1);
        z.move(0);
        Checks.is("of the tenth it is", z.whoseHand(), 0);
        z.undo();
        z.move(1);
        Checks.is("so it gave 1", z.whoseHand(), 1);
    }

    /** Each NAME by what was at the beginning of the TENTH, not by what is now. */
    private static void whoseHandNames() {
        String[] names = {"away", "speed", "pace", "wind", "goal"};
        for (int n = 0; n < names.length; n++) {
            HookSwings x = new HookSwings();
            x.aim(100);
            x.run(42);
            Checks.text(x, "hand 0;");
            int then = x.jib(n == 0 ? 4 : n == 1 ? 3 : n == 2 ? 1 : 7);
            then = n == 4 ? x.jib(8) - x.jib(0) : then;
            Checks.is(names[n] + " isn't 0 then", then != 0, true);
            for (int i = 0; i < 60; i++) {
                x.move(0);
            }
            Checks.text(x, "hand if " + names[n] + "=0" + (then < 0 ? "" : "+") + then + " then 1 else 0 end;");
            Checks.is(names[n] + " of the 60th ago", x.ago(60, n), then);
            Checks.is("in the 60th ago it gives 1", x.whoseHand(), 1);
            x.undo();
            x.move(1);
            Checks.is("1 was given in another one", x.whoseHand(), 0);
        }
        HookSwings y = new HookSwings();
        Checks.text(y, "hand away+speed*100+pace*1000+goal*9999-9999*10;");
        y.aim(10);
        y.move(0);
        y.aim(11);
        y.move(1);
        y.aim(9);
        y.move(-1);
        Checks.is("GOAL 10, 11, 8: 0, 1, -1", y.whoseHand(), 1);
    }

    private static void dayEndsRange() {
        HookSwings x = ruled("swings if speed=0 then wind else 0 end;");
        Checks.is("1: 9 above 8", x.dayEnds(1, 8), 9);
        Checks.is("1: 9 isn't above 9", x.dayEnds(1, 9), -1);
        Checks.is("1: 1 above 0", x.dayEnds(1, 0), 1);
        Checks.is("200: 1800 above 1799", x.dayEnds(200, 1799), 9);
        Checks.is("200: 1800 isn't above 1800", x.dayEnds(200, 1800), -1);
        Checks.is("200: 200 above 199", x.dayEnds(200, 199), 1);
        Checks.is("200: 200 isn't above 200, 400 is", x.dayEnds(200, 200), 2);
        Checks.is("bound 9999", x.dayEnds(200, 9999), -1);
        int[] wrong = {0, -1, 201, Integer.MIN_VALUE, Integer.MAX_VALUE};
        for (int n : wrong) {
            Checks.is("n " + n, x.dayEnds(n, 0), -1);
        }
        Checks.is("bound -1", x.dayEnds(1, -1), -1);
        HookSwings y = ruled("paces 9;swings 0-99;hand 1;");
        y.run(60);
        y.run(60);
        Checks.is("AWAY 10599", y.jib(4), 10599);
        Checks.is("bound 9999 of 10599", y.dayEnds(1, 9999), 1);
        Checks.is("bound 10000", y.dayEnds(1, 10000), -1);
        Checks.is("bound far off", y.dayEnds(1, Integer.MAX_VALUE), -1);
    }

    private static void dayEndsWind() {
        HookSwings x = ruled("swings if wind>0 then away-speed-wind else away-speed end;");
        for (int bound = 0; bound < 9; bound++) {
            Checks.is("the least WIND above " + bound, x.dayEnds(1, bound), bound + 1);
        }
        Checks.is("none above 9", x.dayEnds(200, 9), -1);
        x.storm(0, 1);
        Checks.is("WIND now", x.jib(7), 8);
        Checks.is("WIND as it is doesn't count", x.dayEnds(1, 0), 1);
        Checks.is("it stands still so", x.dayEnds(200, 8), 9);
        HookSwings y = ruled("swings 0-40;");
        y.move(0);
        Checks.text(y, TIGHT);
        y.by(1);
        Checks.is("AWAY now doesn't count", y.dayEnds(200, 0), -1);
        HookSwings z = rolling("swings away-speed-if goal=99 then wind else 0 end;");
        Checks.is("in the 200th", z.dayEnds(200, 0), 1);
        Checks.is("not in 199", z.dayEnds(199, 0), -1);
    }

    private static void savesRange() {
        HookSwings x = new HookSwings();
        for (int t = 0; t < 4; t++) {
            Checks.text(x, "hand " + (t % 2) + ";");
        }
        Checks.is("no ORDERS told", x.saves(0, 1, 1), FAR_OFF);
        for (int o = 0; o < 8; o++) {
            Checks.is("no such ORDER", x.saves(0, 1, 1 << o), FAR_OFF);
            Checks.is("that and others", x.saves(0, 1, (2 << o) - 1), FAR_OFF);
            x.order(1, 0, 0, 0, 0);
            Checks.is("ORDER " + o, x.saves(0, 1, 1 << o), 199);
            Checks.is("all", x.saves(0, 1, (2 << o) - 1), 199 * (o + 1));
        }
        Checks.is("256", x.saves(0, 1, 256), FAR_OFF);
        Checks.is("511", x.saves(0, 1, 511), FAR_OFF);
        Checks.is("none of them", x.saves(0, 1, 0), FAR_OFF);
        Checks.is("-1", x.saves(0, 1, -1), FAR_OFF);
        Checks.is("a set below 0", x.saves(0, 1, Integer.MIN_VALUE + 1), FAR_OFF);
        for (int t = 0; t < 4; t++) {
            Checks.is("like TEXTS", x.saves(t, t, 1), FAR_OFF);
        }
        Checks.is("unlike ones with like hands", x.saves(0, 2, 255), 0);
        Checks.is("3 and 2", x.saves(3, 2, 255), -199 * 8);
        int[] wrong = {-1, 4, Integer.MIN_VALUE, Integer.MAX_VALUE};
        for (int t : wrong) {
            Checks.is("one " + t, x.saves(t, 1, 1), FAR_OFF);
            Checks.is("other " + t, x.saves(0, t, 1), FAR_OFF);
        }
    }

    private static void savesTenths() {
        HookSwings x = ruled(STEADY + TIGHT);
        Checks.text(x, "hand 1;");
        x.near(0);
        x.order(1, 0, 0, 0, 0);
        x.order(1, 1, 0, 0, 0);
        x.order(1, 19, 0, 0, 0);
        x.order(1, 20, 0, 0, 0);
        Checks.is("1 at least", x.saves(0, 1, 1), 200 - 1);
        Checks.is("11", x.saves(0, 1, 2), 200 - 11);
        Checks.is("191", x.saves(0, 1, 4), 200 - 191);
        Checks.is("201 is 200", x.saves(0, 1, 8), 0);
        Checks.is("together", x.saves(0, 1, 15), 800 - 1 - 11 - 191 - 200);
        x.aim(600);
        x.run(60);
        x.hoist(24);
        Checks.is("from rest", x.saves(0, 1, 15), 800 - 1 - 11 - 191 - 200);
    }

    /** How many TENTHS the hand of a law saves against one that never stops, for one ORDER. */
    private static void savesBy(String what, HookSwings x, int due) {
        Checks.text(x, "hand 1;");
        int text = x.about(3) - 1;
        Checks.is(what, x.saves(text - 1, text, 1), 200 - due);
    }

    /** An ORDER to a YARD, far off from rest: WIND 7, ROPE 9, and the LOAD swings. */
    private static HookSwings farFromRest(int yard, int near) {
        HookSwings x = new HookSwings();
        x.order(5, yard, 0, 0, 0);
        x.near(near);
        x.aim(600);
        x.run(40);
        x.run(2);
        x.hoist(9);
        Checks.is("WIND", x.jib(7), 7);
        x.foretold(1, true, 0);
        return x;
    }

    private static void savesFromRest() {
        HookSwings rest = farFromRest(0, 0);
        Checks.text(rest, "hand 0;");
        savesBy("PLACE, LOAD, PACE, SPEED 0", rest, 1);
        HookSwings wind = farFromRest(0, 0);
        Checks.text(wind, "hand if wind#0 or ago 1 wind#0 then 1 else 0 end;");
        savesBy("WIND 0", wind, 1);
        HookSwings weight = farFromRest(0, 0);
        Checks.text(weight, "hand if weight=5 then 0 else 1 end;");
        savesBy("its WEIGHT", weight, 1);
        HookSwings rope = new HookSwings();
        rope.order(5, 0, 0, 0, 0);
        rope.hoist(9);
        Checks.text(rope, "hand if rope=9 then 0 else 1 end;");
        savesBy("ROPE as now", rope, 1);
        HookSwings tenth = farFromRest(1, 99);
        Checks.text(tenth, "hand if ago 1 goal=10 then 0-1 else if ago 1 goal=0 then 1 else 0 end end;");
        savesBy("nothing kept at first, the first TENTH then", tenth, 2);
        // A gust in TENTH 40 would send it back.
        HookSwings still = farFromRest(5, 0);
        Checks.text(still, "hand if wind>0 then 0-1 else if goal=0 then 0-pace else 1-pace end end;");
        Checks.text(still, "paces 1;" + TIGHT);
        still.by(1);
        Checks.text(still, "hand 1;");
        Checks.is("WIND stands still", still.saves(0, 2, 1), 200 - 51);
    }

    private static void whenToGoWaits() {
        HookSwings x = new HookSwings();
        Checks.is("still now: 0", x.whenToGo(), 0);
        // The hand lets it roll but for the GOAL; from 1 on it must wait.
        HookSwings y = ruled(TIGHT + "hand if goal=0 then 0-pace else 1 end;");
        y.near(0);
        y.aim(61);
        y.move(1);
        Checks.is("60", y.whenToGo(), 60);
        y.aim(62);
        Checks.is("61 is too long", y.whenToGo(), -1);
        y.aim(2);
        Checks.is("1", y.whenToGo(), 1);
        y.aim(1);
        Checks.is("0", y.whenToGo(), 0);
        HookSwings z = ruled(STEADY + TIGHT);
        z.near(0);
        z.aim(50);
        z.move(1);
        Checks.is("all are alike: the least", z.whenToGo(), 0);
        // Farther than 3 this hand stops each other TENTH; nearer it rolls on to the GOAL.
        HookSwings u = ruled("paces 1;" + TIGHT + "hand if pace=1 and goal>3 then 0-1 else if goal=0 then 0-pace"
            + " else 1-pace end end;");
        u.near(0);
        u.aim(8);
        u.move(1);
        Checks.is("at once: in 12", u.foretold(200, true, 3), 12);
        u.image();
        for (int i = 0; i < 4; i++) {
            u.move(0);
        }
        Checks.is("behind 4: in 4", u.foretold(200, true, 3), 4);
        u.back();
        Checks.is("a later one is sooner in all", u.whenToGo(), 4);
    }

    private static void whenToGoInAll() {
        HookSwings x = ruled(STEADY + TIGHT);
        x.near(0);
        x.aim(199);
        Checks.is("200 in all", x.whenToGo(), 0);
        x.aim(200);
        Checks.is("201 in all", x.whenToGo(), -1);
        waitsToReach(139, 200, 60);
        waitsToReach(140, 200, 59);
        waitsToReach(140, 201, -1);
        waitsToReach(138, 200, -1);
    }

    /** From PLACE 1 with PACE 1; farther from the GOAL than told, this hand spoils it. */
    private static void waitsToReach(int far, int goal, int due) {
        HookSwings x = ruled("hand if pace>1 or goal>" + far + " then 1 else if goal=0 then 0-pace else 0 end end;" + TIGHT);
        x.near(0);
        x.aim(goal);
        x.move(1);
        Checks.is("GOAL " + goal + ", to wait till " + far, x.whenToGo(), due);
    }

    private static void whichRopeRange() {
        HookSwings x = new HookSwings();
        Checks.is("of like ones the least", x.whichRope(), 1);
        for (int rope = 1; rope <= 24; rope++) {
            HookSwings y = ruled("hand if rope=" + rope + " then 0 else 1 end;");
            Checks.is("ROPE " + rope, y.whichRope(), rope);
            Checks.is("ROPE stays", y.jib(5), 5);
        }
        HookSwings none = ruled("hand if rope=0 or rope=25 then 0 else 1 end;");
        Checks.is("none", none.whichRope(), -1);
        HookSwings z = ruled(STEADY + TIGHT);
        z.near(0);
        z.aim(199);
        Checks.is("in 200", z.whichRope(), 1);
        z.aim(200);
        Checks.is("in 201", z.whichRope(), -1);
        HookSwings u = ruled("paces if rope=24 then 2 else 1 end;hand if goal<1 then 0-pace else 1-pace end;" + TIGHT);
        u.near(0);
        u.aim(9);
        Checks.is("all in 10", u.whichRope(), 1);
        HookSwings v = ruled("paces if rope>20 then 2 else 1 end;hand if goal<2 then 0-pace else 9 end;" + TIGHT);
        v.near(1);
        v.aim(21);
        Checks.is("the quicker ones, the least of them", v.whichRope(), 21);
    }

    private static void bars() {
        int[][] wrong = {{-2, 0, 0, 0}, {0, 601, 0, 0}, {601, 601, 0, 0}, {1, 0, 0, 0}, {600, 599, 0, 0}, {0, 0, -1, 0},
            {0, 0, 0, -1}, {0, 0, 0, 10000}, {0, 0, 10000, 10000}, {0, 0, 1, 0}, {0, 0, 9999, 9998}, {0, -1, 0, 0},
            {Integer.MIN_VALUE, 0, 0, 0}, {0, Integer.MAX_VALUE, 0, 0}};
        HookSwings x = new HookSwings();
        int[][] right = {{0, 0, 0, 0}, {600, 600, 9999, 9999}, {0, 600, 0, 9999}, {0, 0, 0, 9999}};
        for (int i = 0; i < 4; i++) {
            for (int[] w : wrong) {
                Checks.is("wrong", x.bar(w[0], w[1], w[2], w[3]), -2);
            }
            Checks.is("BARS", x.about(9), i);
            Checks.is("right", x.bar(right[i][0], right[i][1], right[i][2], right[i][3]), i + 1);
        }
        Checks.is("there are 4", x.bar(0, 0, 0, 0), -2);
        Checks.is("4 stay", x.about(9), 4);
        Checks.is("none any more", x.bar(-1, 0, 0, 0), 0);
        Checks.is("none", x.about(9), 0);
        Checks.is("none again", x.bar(-1, 0, 0, 0), 0);
        Checks.is("the first again", x.bar(1, 1, 1, 1), 1);
    }

    private static void barredRange() {
        HookSwings x = rolling(TIGHT);
        Checks.is("no BARS", x.barred(200, false), -1);
        x.bar(201, 201, 0, 9999);
        Checks.is("in 200", x.barred(200, false), 200);
        Checks.is("not in 199", x.barred(199, false), -1);
        int[] wrong = {0, -1, 201, Integer.MIN_VALUE, Integer.MAX_VALUE};
        for (int n : wrong) {
            Checks.is("n " + n, x.barred(n, false), -1);
        }
        Checks.is("by the hand", x.barred(67, true), 67);
        Checks.is("by the hand, not in 66", x.barred(66, true), -1);
        x.bar(2, 2, 0, 9999);
        Checks.is("in 1", x.barred(1, false), 1);
        x.bar(-1, 0, 0, 0);
        x.bar(202, 202, 0, 9999);
        Checks.is("201 are too many", x.barred(200, false), -1);
        Checks.is("by the hand it passes by", x.barred(200, true), -1);
    }

    /** PLACE is TENTH here, and both are 1 now. */
    private static void barredBy(int from, int to, int begin, int end, int due) {
        HookSwings x = rolling(TIGHT);
        x.bar(from, to, begin, end);
        Checks.is("bar " + from + " " + to + " " + begin + " " + end, x.barred(50, false), due);
        HookSwings y = rolling(TIGHT);
        for (int i = 0; i < 3; i++) {
            y.bar(600, 600, 0, 9999);
        }
        y.bar(from, to, begin, end);
        Checks.is("as the 4th", y.barred(50, false), due);
    }

    private static void barredEdges() {
        barredBy(10, 12, 0, 9999, 9);
        barredBy(0, 600, 10, 12, 9);
        barredBy(5, 9, 10, 20, -1);
        barredBy(5, 10, 10, 20, 9);
        barredBy(11, 20, 5, 11, 10);
        barredBy(11, 20, 5, 10, -1);
        barredBy(0, 1, 0, 9999, -1);
        barredBy(0, 2, 0, 9999, 1);
        barredBy(0, 600, 0, 1, -1);
        barredBy(0, 600, 0, 2, 1);
        barredBy(51, 51, 51, 51, 50);
        barredBy(52, 52, 0, 9999, -1);
    }

    private static void barredBeyond9999() {
        HookSwings x = late(TIGHT);
        x.bar(0, 600, 9999, 9999);
        x.run(38);
        Checks.is("9999 is barred", x.barred(1, false), 1);
        x.run(1);
        Checks.is("10000 can't be", x.barred(200, false), -1);
    }

    private static void howFar() {
        HookSwings x = new HookSwings();
        Checks.is("1", x.howFar(1), 59);
        Checks.is("60", x.howFar(60), 0);
        Checks.is("61", x.howFar(61), -1);
        Checks.is("99", x.howFar(99), -1);
        Checks.text(x, "holds 99;");
        Checks.text(x, "holds 98;");
        Checks.text(x, "holds if yard<60 then 50 else 49 end;");
        Checks.text(x, "holds if yard=0 then 49 else 50 end;");
        x.by(0);
        Checks.is("99 of 99", x.howFar(99), 60);
        int[] wrong = {0, -1, 100, Integer.MIN_VALUE, Integer.MAX_VALUE};
        for (int w : wrong) {
            Checks.is("WEIGHT " + w, x.howFar(w), -1);
        }
        Checks.is("1 of 99", x.howFar(1), 60);
        x.by(1);
        Checks.is("99 of 98", x.howFar(99), -1);
        Checks.is("98 of 98", x.howFar(98), 60);
        x.by(2);
        Checks.is("49 to YARD 60", x.howFar(49), 60);
        Checks.is("50 to YARD 59", x.howFar(50), 59);
        x.by(3);
        Checks.is("not at YARD 0, so none", x.howFar(50), -1);
        Checks.is("49", x.howFar(49), 60);
        HookSwings y = ruled("holds yard+30;");
        Checks.is("from YARD 0 on", y.howFar(30), 60);
        Checks.is("30 at YARD 0", y.howFar(31), -1);
    }

    private static void over() {
        HookSwings x = new HookSwings();
        Checks.is("no ORDERS", x.over(), 0);
        x.order(60, 0, 0, 0, 0);
        Checks.is("60 of 60", x.over(), 0);
        x.order(61, 0, 0, 0, 0);
        Checks.is("61 of 60", x.over(), 2);
        x.order(1, 59, 0, 0, 0);
        x.order(1, 60, 0, 0, 0);
        Checks.is("1 of 1, 1 of 0", x.over(), 10);
        for (int i = 4; i < 8; i++) {
            x.order(99, 60, 0, 0, 0);
        }
        Checks.is("the last, too", x.over(), 250);
        Checks.text(x, "holds 99;");
        x.by(0);
        Checks.is("99 of 99", x.over(), 0);
    }
}
