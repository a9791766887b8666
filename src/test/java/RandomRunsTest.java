import java.util.ArrayList;
import java.util.List;
import java.util.Random;

/** Random runs of at most 512 calls: the class must answer as the Model does. */
public final class RandomRunsTest {
    private static final int RUNS = 400;
    private static int wrong = 0;

    private final Random random;
    private final HookSwings swings = new HookSwings();
    private final Model model = new Model();
    private final List<String> calls = new ArrayList<>();
    private final int[] weights = new int[47];
    private boolean differs = false;

    private RandomRunsTest(long seed) {
        random = new Random(seed);
        for (int i = 0; i < weights.length; i++) {
            weights[i] = 1 + random.nextInt(4) * random.nextInt(4);
        }
    }

    public static void main(String[] args) {
        int runs = args.length > 0 ? Integer.parseInt(args[0]) : RUNS;
        int from = args.length > 1 ? Integer.parseInt(args[1]) : 0;
        for (int seed = from; seed < from + runs && wrong < 5; seed++) {
            RandomRunsTest test = new RandomRunsTest(seed);
            test.play(seed % 10 == 0 ? 512 : 150);
            if (test.differs) {
                wrong++;
                System.out.println("seed " + seed + ": " + String.join("\n  ", test.calls));
            }
        }
        System.out.println(wrong == 0 ? "all random runs answered alike" : wrong + " random runs differ");
        if (wrong != 0) {
            System.exit(1);
        }
    }

    private void check(String call, long got, long want) {
        calls.add(call + " = " + want);
        if (got != want) {
            calls.add("  but the class answered " + got);
            differs = true;
        }
    }

    private void check(String call, boolean got, boolean want) {
        check(call, got ? 1L : 0L, want ? 1L : 0L);
    }

    private void play(int length) {
        int made = 0;
        if (random.nextInt(12) == 0) {
            while (made < 166) {
                runs(60);
                made++;
            }
        }
        if (random.nextInt(3) != 0) {
            made += furnish();
        }
        int all = 0;
        for (int w : weights) {
            all += w;
        }
        while (made < length && !differs) {
            int pick = random.nextInt(all);
            int which = 0;
            while (pick >= weights[which]) {
                pick -= weights[which];
                which++;
            }
            made += which < 24 ? tell(which) : look(which);
            if (random.nextInt(3) == 0) {
                made += lookAll();
            }
        }
    }

    /** Orders, sensible texts and a swing, so that what is asked later has something to tell. */
    private int furnish() {
        int made = 2;
        int orders = random.nextInt(9);
        for (int i = 0; i < orders; i++) {
            made += tellOrder();
        }
        int texts = random.nextInt(5);
        for (int i = 0; i < texts; i++) {
            made += tellBytes(new Writer(random).sensible());
        }
        int ruling = random.nextInt(texts + 1) - 1;
        check("by(" + ruling + ")", swings.by(ruling), model.by(ruling));
        int near = random.nextInt(30);
        check("near(" + near + ")", swings.near(near), model.near(near));
        if (random.nextBoolean()) {
            int seed = random.nextInt(10000);
            int n = 1 + random.nextInt(40);
            check("storm(" + seed + ", " + n + ")", swings.storm(seed, n), model.storm(seed, n));
            made++;
        }
        return made;
    }

    /** Hooks an ORDER and lands it where it hangs, if that can be. */
    private int lift() {
        int order = random.nextInt(8);
        check("hook(" + order + ")", swings.hook(order), model.hook(order));
        int n = 1 + random.nextInt(20);
        runs(n);
        int goal = swings.jib(0);
        check("aim(" + goal + ")", swings.aim(goal), model.aim(goal));
        check("near(99)", swings.near(99), model.near(99));
        runs(1 + random.nextInt(5));
        check("land()", swings.land(), model.land());
        int i = about(-1, 7);
        check("landed(" + i + ", 0)", swings.landed(i, 0), model.landed(i, 0));
        check("landed(" + i + ", 1)", swings.landed(i, 1), model.landed(i, 1));
        check("mean(false)", swings.mean(false), model.mean(false));
        check("mean(true)", swings.mean(true), model.mean(true));
        check("hour(" + n + ")", swings.hour(n), model.hour(n));
        return 11;
    }

    /** Mostly from least to most, now and then just beside it or far off. */
    private int about(int least, int most) {
        switch (random.nextInt(30)) {
            case 0: return least - 1;
            case 1: return most + 1;
            case 2: return random.nextInt();
            case 3: return random.nextBoolean() ? Integer.MIN_VALUE : Integer.MAX_VALUE;
            case 4: return least;
            case 5: return most;
            default: return least + random.nextInt(most - least + 1);
        }
    }

    private int runs(int n) {
        check("run(" + n + ")", swings.run(n), model.run(n));
        return 1;
    }

    private int lookAll() {
        int what = about(0, 12);
        check("jib(" + what + ")", swings.jib(what), model.jib(what));
        int which = about(0, 9);
        check("about(" + which + ")", swings.about(which), model.about(which));
        return 2;
    }

    private int tell(int which) {
        switch (which) {
            case 0: case 1: return tellOrder();
            case 2: {
                int near = random.nextInt(3) == 0 ? 99 : random.nextInt(3) == 0 ? about(0, 10) : about(0, 99);
                check("near(" + near + ")", swings.near(near), model.near(near));
                return 1;
            }
            case 3: case 4: case 5: return tellText();
            case 6: {
                int text = about(-1, 3);
                check("by(" + text + ")", swings.by(text), model.by(text));
                return 1;
            }
            case 7: case 8: case 9: {
                int command = about(-1, 1);
                check("move(" + command + ")", swings.move(command), model.move(command));
                return 1;
            }
            case 10: case 11: return runs(about(1, 60));
            case 12: {
                int rope = about(1, 24);
                check("hoist(" + rope + ")", swings.hoist(rope), model.hoist(rope));
                return 1;
            }
            case 13: {
                int goal = random.nextBoolean() ? about(0, 600) : swings.jib(0) + about(-4, 4);
                check("aim(" + goal + ")", swings.aim(goal), model.aim(goal));
                return 1;
            }
            case 14: case 15: {
                int order = about(0, 7);
                check("hook(" + order + ")", swings.hook(order), model.hook(order));
                return 1;
            }
            case 16: check("land()", swings.land(), model.land()); return 1;
            case 17: return lift();
            case 18: {
                int text = about(0, 3);
                check("played(" + text + ")", swings.played(text), model.played(text));
                return 1;
            }
            case 19: {
                int seed = about(0, 9999);
                int n = about(1, 40);
                check("storm(" + seed + ", " + n + ")", swings.storm(seed, n), model.storm(seed, n));
                return 1;
            }
            case 20: case 21: return undoSome();
            case 22: check("image()", swings.image(), model.image()); return 1;
            default:
                if (random.nextInt(3) == 0) {
                    check("back()", swings.back(), model.back());
                }
                return 1;
        }
    }

    private int undoSome() {
        int n = random.nextInt(4) == 0 ? 32 : 1 + random.nextInt(4);
        for (int i = 0; i < n; i++) {
            check("undo()", swings.undo(), model.undo());
        }
        int k = about(1, 60);
        int what = about(0, 5);
        check("ago(" + k + ", " + what + ")", swings.ago(k, what), model.ago(k, what));
        return n + 1;
    }

    private int tellOrder() {
        int weight = about(1, 99);
        int yard = random.nextBoolean() ? Math.max(0, swings.jib(0)) / 10 : about(0, 60);
        int due = random.nextBoolean() ? about(0, 30) : about(0, 999);
        int men = about(0, 9);
        int jib = about(0, 1);
        check("order(" + weight + ", " + yard + ", " + due + ", " + men + ", " + jib + ")",
            swings.order(weight, yard, due, men, jib), model.order(weight, yard, due, men, jib));
        return 1;
    }

    private int tellText() {
        return tellBytes(new Writer(random).text());
    }

    private int tellBytes(byte[] bytes) {
        int made = 0;
        if (random.nextInt(10) != 0) {
            check("end(0)", swings.end(0), model.end(0));
            made++;
        }
        for (int i = 0; i < bytes.length; i += 20) {
            int[] five = new int[5];
            for (int k = 0; k < 20; k++) {
                int b = i + k < bytes.length ? bytes[i + k] & 255 : 0;
                five[k / 4] = five[k / 4] << 8 | b;
            }
            check("feed(..)", swings.feed(five[0], five[1], five[2], five[3], five[4]), model.feed(five));
            made++;
        }
        int n = random.nextInt(20) == 0 ? about(0, 300) : bytes.length;
        check("end(" + n + ")", swings.end(n), model.end(n));
        check("text() of '" + new String(bytes, java.nio.charset.StandardCharsets.ISO_8859_1) + "'",
            swings.text(), model.text());
        for (int what = -1; what <= 2; what++) {
            check("fault(" + what + ")", swings.fault(what), model.fault(what));
        }
        return made + 6;
    }

    private int look(int which) {
        int n = random.nextInt(3) == 0 ? about(1, 200) : about(1, 40);
        boolean flag = random.nextBoolean();
        int set = random.nextBoolean() ? (1 << Math.max(0, swings.about(0))) - 1 - random.nextInt(3) : about(1, 255);
        switch (which) {
            case 24: {
                int order = about(0, 7);
                int what = about(0, 7);
                check("ofOrder(" + order + ", " + what + ")", swings.ofOrder(order, what), model.ofOrder(order, what));
                return 1;
            }
            case 25: {
                int k = about(1, 60);
                int what = about(0, 5);
                check("ago(" + k + ", " + what + ")", swings.ago(k, what), model.ago(k, what));
                return 1;
            }
            case 26: {
                int what = about(0, 3);
                check("foretold(" + n + ", " + flag + ", " + what + ")",
                    swings.foretold(n, flag, what), model.foretold(n, flag, what));
                return 1;
            }
            case 27: {
                int i = about(-1, 7);
                if (random.nextInt(4) == 0) {
                    check("soonest(" + i + ")", swings.soonest(i), model.soonest(i));
                }
                return 1;
            }
            case 28: {
                int i = about(-1, 7);
                if (random.nextInt(4) == 0) {
                    check("fewest(" + i + ")", swings.fewest(i), model.fewest(i));
                }
                return 1;
            }
            case 29: check("toAndFro(" + n + ")", swings.toAndFro(n), model.toAndFro(n)); return 1;
            case 30: {
                int b = about(0, 9);
                int m = about(1, 9);
                check("calm(" + m + ", " + b + ", " + flag + ")", swings.calm(m, b, flag), model.calm(m, b, flag));
                return 1;
            }
            case 31: {
                int text = about(0, 3);
                check("dies(" + text + ", " + n + ")", swings.dies(text, n), model.dies(text, n));
                return 1;
            }
            case 32: check("calmest(" + n + ")", swings.calmest(n), model.calmest(n)); return 1;
            case 33: check("whoseHand()", swings.whoseHand(), model.whoseHand()); return 1;
            case 34: {
                int bound = random.nextBoolean() ? about(0, 9999) : about(0, 60);
                check("dayEnds(" + n + ", " + bound + ")", swings.dayEnds(n, bound), model.dayEnds(n, bound));
                return 1;
            }
            default: return lookMore(which, n, flag, set);
        }
    }

    private int lookMore(int which, int n, boolean flag, int set) {
        switch (which) {
            case 35: {
                int one = about(0, 3);
                int other = about(0, 3);
                check("saves(" + one + ", " + other + ", " + set + ")",
                    swings.saves(one, other, set), model.saves(one, other, set));
                return 1;
            }
            case 36: check("whenToGo()", swings.whenToGo(), model.whenToGo()); return 1;
            case 37: check("whichRope()", swings.whichRope(), model.whichRope()); return 1;
            case 38: case 39: return tellBar(n, flag);
            case 40: {
                int weight = about(1, 99);
                check("howFar(" + weight + ")", swings.howFar(weight), model.howFar(weight));
                check("over()", swings.over(), model.over());
                return 2;
            }
            case 41: {
                int i = about(-1, 7);
                check("first(" + set + ", " + i + ")", swings.first(set, i), model.first(set, i));
                return 1;
            }
            case 42: {
                int order = about(-1, 7);
                check("twoJibs(" + set + ", " + order + ")", swings.twoJibs(set, order), model.twoJibs(set, order));
                return 1;
            }
            case 43: {
                int r = random.nextInt(8) == 0 ? -1 : about(0, 10);
                check("said(" + r + ", " + flag + ")", swings.said(r, flag), model.said(r, flag));
                check("left(" + flag + ")", swings.left(flag), model.left(flag));
                check("left(" + !flag + ")", swings.left(!flag), model.left(!flag));
                return 3;
            }
            case 44: {
                int i = about(-1, 7);
                int what = about(0, 1);
                check("landed(" + i + ", " + what + ")", swings.landed(i, what), model.landed(i, what));
                return 1;
            }
            case 45: {
                int m = random.nextBoolean() ? about(1, 9999) : about(1, 100);
                check("hour(" + m + ")", swings.hour(m), model.hour(m));
                return 1;
            }
            default: check("mean(" + flag + ")", swings.mean(flag), model.mean(flag)); return 1;
        }
    }

    private int tellBar(int n, boolean flag) {
        int from = random.nextInt(6) == 0 ? -1 : about(0, 600);
        int to = random.nextBoolean() ? about(0, 600) : 600;
        int begin = random.nextBoolean() ? about(0, 9999) : Math.max(0, swings.jib(9)) + random.nextInt(20);
        int end = random.nextBoolean() ? about(0, 9999) : 9999;
        check("bar(" + from + ", " + to + ", " + begin + ", " + end + ")",
            swings.bar(from, to, begin, end), model.bar(from, to, begin, end));
        check("barred(" + n + ", " + flag + ")", swings.barred(n, flag), model.barred(n, flag));
        return 2;
    }

    /** Writes random texts, most of them without a fault. */
    private static final class Writer {
        private final Random random;
        private final StringBuilder out = new StringBuilder();

        Writer(Random random) {
            this.random = random;
        }

        private String any(String... ones) {
            return ones[random.nextInt(ones.length)];
        }

        byte[] sensible() {
            int a = 1 + random.nextInt(9);
            int b = 1 + random.nextInt(30);
            String[] clauses = {
                any("paces ", "paces 1+", "paces 4+weight/40-") + a + ";",
                "swings " + any("(away+wind)/rope", "away/" + a + "-speed/" + b, "away/rope+wind-ago " + a + " wind",
                    "(away-wind*" + a + ")/rope-speed/5", "if size away<" + b + " then 0-speed else away/rope end") + ";",
                "hand " + any("goal-away*" + a, "goal-pace*" + a + "-speed", "if size goal<" + b + " then 0-pace else goal end",
                    "goal-ago " + a + " goal+away", "if ago " + a + " away>0 then 1 else 0-1 end", "goal*" + a + "-pace*" + b,
                    "goal", "0-pace", "wind-" + a, "if pace>0 and goal<" + b + " or pace<0 then 0-pace else goal end") + ";",
                "holds " + any(b + "+" + b + "-yard", "99-yard*" + a + "/4", "if yard=" + b + " then 0 else 50 end",
                    "yard*" + a) + ";",
                "lasts " + any("yard/" + a + "+1", "weight/" + b + "+rope", "yard*weight/99+" + a, "" + a) + ";"};
            for (String clause : clauses) {
                if (random.nextInt(3) != 0) {
                    out.append(clause);
                }
            }
            return out.toString().getBytes(java.nio.charset.StandardCharsets.ISO_8859_1);
        }

        byte[] text() {
            int clauses = random.nextInt(12) == 0 ? 26 : random.nextInt(7);
            String[] laws = {"paces", "swings", "hand", "hand", "hand", "holds", "lasts"};
            String used = "";
            for (int i = 0; i < clauses && out.length() < 260; i++) {
                int before = out.length();
                String law = laws[random.nextInt(laws.length)];
                boolean again = used.contains(law) && random.nextInt(10) != 0;
                if (clauses < 20 && random.nextInt(2) == 0 && !again) {
                    used += law;
                    out.append(law).append(' ');
                    sum(law, random.nextInt(6) == 0 ? 7 : 3);
                    out.append(';');
                } else {
                    deed(clauses >= 20);
                }
                if (out.length() > 300) {
                    out.setLength(before);
                }
            }
            spoil();
            if (out.length() > 300) {
                out.setLength(300);
            }
            return out.toString().getBytes(java.nio.charset.StandardCharsets.ISO_8859_1);
        }

        private void spoil() {
            if (random.nextInt(3) != 0) {
                return;
            }
            String[] signs = {"(", ")", ";", "-", "+", "<=", ">", "=", "#", "if", "then", "else", "end", "not ", "size ",
                "ago 1 ", "ago 10 ", "10000", "0", "7", "away", "yard", "rope ", "weight", "hand", "Hand", "~", "\t", "\n",
                " ", "or", "and", "move up;", "run 61;", "land;", "order 1 ", "on", "((((((((", "- - - - ", "*", "/"};
            int times = 1 + random.nextInt(2);
            for (int i = 0; i < times; i++) {
                int at = random.nextInt(out.length() + 1);
                if (random.nextBoolean() && at < out.length()) {
                    out.deleteCharAt(at);
                } else {
                    out.insert(at, signs[random.nextInt(signs.length)]);
                }
            }
        }

        private int edge(int least, int most) {
            return random.nextInt(25) == 0 ? most + 1 : least + random.nextInt(most - least + 1);
        }

        private void deed(boolean brief) {
            switch (brief ? 4 + random.nextInt(4) : random.nextInt(8)) {
                case 0: case 1:
                    out.append("order ").append(edge(1, 99)).append(" at ").append(edge(0, 60)).append(" due ")
                        .append(edge(0, 999)).append(" men ").append(edge(0, 9)).append(" on ").append(edge(0, 1));
                    break;
                case 2: out.append("rope ").append(edge(1, 24)); break;
                case 3: out.append("aim ").append(edge(0, 600)); break;
                case 4: out.append("run ").append(edge(1, 60)); break;
                case 5: out.append("hook ").append(edge(0, 7)); break;
                case 6: out.append(random.nextInt(3) == 0 ? "land" : "move on"); break;
                default: out.append("move ").append(new String[] {"in", "on", "out"}[random.nextInt(3)]);
            }
            out.append(random.nextInt(4) == 0 ? " ; " : ";");
        }

        private void sum(String law, int depth) {
            product(law, depth);
            while (random.nextInt(3) == 0) {
                out.append(random.nextBoolean() ? "+" : "-");
                product(law, depth);
            }
        }

        private void product(String law, int depth) {
            one(law, depth);
            while (random.nextInt(3) == 0) {
                out.append(random.nextBoolean() ? "*" : "/");
                one(law, depth);
            }
        }

        private void name(String law, boolean ago) {
            String[] names = law.equals("holds") ? new String[] {"yard"}
                : law.equals("lasts") ? new String[] {"yard", "rope", "weight"}
                : new String[] {"away", "speed", "pace", "wind", "goal", "rope", "weight"};
            if (random.nextInt(60) == 0) {
                names = new String[] {"away", "yard", "rope", "weight", "what"};
            }
            out.append(names[random.nextInt(ago ? Math.min(5, names.length) : names.length)]);
        }

        private void one(String law, int depth) {
            int pick = random.nextInt(depth <= 0 ? 4 : 9);
            switch (pick) {
                case 0: out.append(random.nextInt(3) == 0 ? random.nextInt(10010) : random.nextInt(12)); break;
                case 1: case 2: name(law, false); break;
                case 3:
                    if (law.equals("holds") || law.equals("lasts")) {
                        name(law, false);
                    } else {
                        out.append("ago ").append(edge(1, 9)).append(' ');
                        name(law, true);
                    }
                    break;
                case 4:
                    out.append('(');
                    sum(law, depth - 1);
                    out.append(')');
                    break;
                case 5:
                    out.append('-');
                    one(law, depth - 1);
                    break;
                case 6:
                    out.append("size ");
                    one(law, depth - 1);
                    break;
                default:
                    out.append("if ");
                    either(law, depth - 1);
                    out.append(" then ");
                    sum(law, depth - 1);
                    out.append(" else ");
                    sum(law, depth - 1);
                    out.append(" end");
            }
        }

        private void either(String law, int depth) {
            ask(law, depth);
            while (random.nextInt(3) == 0) {
                out.append(random.nextBoolean() ? " or " : " and ");
                ask(law, depth);
            }
        }

        private void ask(String law, int depth) {
            while (random.nextInt(5) == 0) {
                out.append("not ");
            }
            sum(law, depth - 1);
            out.append(new String[] {"<", "<=", ">", ">=", "=", "#"}[random.nextInt(6)]);
            sum(law, depth - 1);
        }
    }
}
