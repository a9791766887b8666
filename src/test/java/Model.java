import java.math.BigInteger;
import java.util.ArrayList;
import java.util.List;

/**
 * The document once more, as slow and plain as can be: whole copies of the state, trees that are walked,
 * every choice tried. Random runs of calls are answered by it and by the class, and the answers compared.
 */
final class Model {
    private static final class Fault extends RuntimeException {
        final int what;
        final int place;

        Fault(int what, int place) {
            super("fault " + what + " at " + place);
            this.what = what;
            this.place = place;
        }
    }

    /** What a law sees: names by name, and the kept TENTHS, the latest last. */
    private static final class Sight {
        int away, speed, pace, wind, goal, rope, weight, yard;
        List<int[]> kept = new ArrayList<>();

        long named(String name) {
            switch (name) {
                case "away": return away;
                case "speed": return speed;
                case "pace": return pace;
                case "wind": return wind;
                case "goal": return goal;
                case "rope": return rope;
                case "weight": return weight;
                case "yard": return yard;
                default: throw new IllegalStateException(name);
            }
        }
    }

    private interface Sum {
        long of(Sight sight);
    }

    private interface Ask {
        boolean of(Sight sight);
    }

    private static final class Clause {
        String word;
        Sum sum;
        int[] numbers = {};
    }

    private static final class Script {
        final List<Clause> clauses = new ArrayList<>();

        Sum law(String word) {
            for (Clause clause : clauses) {
                if (clause.word.equals(word) && clause.sum != null) {
                    return clause.sum;
                }
            }
            return null;
        }
    }

    // ---- reading

    private static final class Token {
        String sign;
        int at;
        boolean number, word, end;
        long value;
    }

    private static final class Parser {
        final List<Token> tokens = new ArrayList<>();
        int next = 0;
        int open = 0;
        String law;

        Parser(byte[] bytes) {
            String s = "";
            for (byte b : bytes) {
                s += (char) (b & 255);
            }
            int i = 0;
            while (i < s.length()) {
                char c = s.charAt(i);
                if (c == 32 || c == 10) {
                    i++;
                    continue;
                }
                Token t = new Token();
                t.at = i;
                if (letter(c)) {
                    t.word = true;
                    while (i < s.length() && letter(s.charAt(i))) {
                        i++;
                    }
                } else if (c >= '0' && c <= '9') {
                    t.number = true;
                    while (i < s.length() && s.charAt(i) >= '0' && s.charAt(i) <= '9') {
                        i++;
                    }
                    BigInteger v = new BigInteger(s.substring(t.at, i));
                    t.value = v.min(BigInteger.valueOf(1000000)).longValue();
                } else if (s.startsWith("<=", i) || s.startsWith(">=", i)) {
                    i += 2;
                } else {
                    i++;
                }
                t.sign = s.substring(t.at, i);
                tokens.add(t);
            }
            Token end = new Token();
            end.at = s.length();
            end.end = true;
            end.sign = "the end";
            tokens.add(end);
        }

        static boolean letter(char c) {
            return c >= 'a' && c <= 'z' || c >= 'A' && c <= 'Z';
        }

        Token peek() {
            return tokens.get(next);
        }

        boolean sees(String sign) {
            return peek().sign.equals(sign) && !peek().end;
        }

        Fault wrong(int what) {
            return new Fault(what, peek().at);
        }

        void need(String sign) {
            if (!sees(sign)) {
                throw wrong(1);
            }
            next++;
        }

        int number(int least, int most) {
            Token t = peek();
            if (!t.number) {
                throw wrong(1);
            }
            if (t.value < least || t.value > most) {
                throw wrong(2);
            }
            next++;
            return (int) t.value;
        }

        Script script() {
            Script script = new Script();
            List<String> laws = List.of("paces", "swings", "hand", "holds", "lasts");
            List<String> deeds = List.of("order", "move", "run", "rope", "aim", "hook", "land");
            while (!peek().end) {
                Clause clause = new Clause();
                clause.word = peek().sign;
                if (!laws.contains(clause.word) && !deeds.contains(clause.word)) {
                    throw wrong(1);
                }
                if (laws.contains(clause.word) && script.law(clause.word) != null) {
                    throw wrong(4);
                }
                if (script.clauses.size() == 24) {
                    throw wrong(6);
                }
                next++;
                if (laws.contains(clause.word)) {
                    law = clause.word;
                    clause.sum = sum();
                } else {
                    clause.numbers = numbers(clause.word);
                }
                need(";");
                script.clauses.add(clause);
            }
            return script;
        }

        int[] numbers(String word) {
            switch (word) {
                case "order":
                    int weight = number(1, 99);
                    need("at");
                    int yard = number(0, 60);
                    need("due");
                    int due = number(0, 999);
                    need("men");
                    int men = number(0, 9);
                    need("on");
                    return new int[] {weight, yard, due, men, number(0, 1)};
                case "move":
                    int side = List.of("in", "on", "out").indexOf(peek().sign);
                    if (side < 0) {
                        throw wrong(1);
                    }
                    next++;
                    return new int[] {side - 1};
                case "run": return new int[] {number(1, 60)};
                case "rope": return new int[] {number(1, 24)};
                case "aim": return new int[] {number(0, 600)};
                case "hook": return new int[] {number(0, 7)};
                default: return new int[] {};
            }
        }

        static long cut(long v) {
            return v > 1000000 ? 1000000 : v < -1000000 ? -1000000 : v;
        }

        Sum sum() {
            Sum all = product();
            while (sees("+") || sees("-")) {
                boolean plus = sees("+");
                next++;
                Sum a = all;
                Sum b = product();
                all = plus ? s -> cut(a.of(s) + b.of(s)) : s -> cut(a.of(s) - b.of(s));
            }
            return all;
        }

        Sum product() {
            Sum all = one();
            while (sees("*") || sees("/")) {
                boolean times = sees("*");
                next++;
                Sum a = all;
                Sum b = one();
                all = times ? s -> cut(a.of(s) * b.of(s)) : s -> b.of(s) == 0 ? 0 : cut(a.of(s) / b.of(s));
            }
            return all;
        }

        void openOne() {
            if (open == 8) {
                throw wrong(3);
            }
            open++;
            next++;
        }

        String name(boolean ago) {
            List<String> five = List.of("away", "speed", "pace", "wind", "goal");
            List<String> more = List.of("rope", "weight", "yard");
            String name = peek().sign;
            if (!five.contains(name) && !more.contains(name)) {
                throw wrong(1);
            }
            boolean swinging = List.of("paces", "swings", "hand").contains(law);
            boolean can = five.contains(name) && swinging
                    || (name.equals("rope") || name.equals("weight")) && (swinging || law.equals("lasts")) && !ago
                    || name.equals("yard") && !swinging && !ago;
            if (!can) {
                throw wrong(5);
            }
            next++;
            return name;
        }

        Sum one() {
            if (peek().number) {
                long v = number(0, 9999);
                return s -> v;
            }
            if (sees("(")) {
                openOne();
                Sum inner = sum();
                need(")");
                open--;
                return inner;
            }
            if (sees("-")) {
                openOne();
                Sum inner = one();
                open--;
                return s -> cut(-inner.of(s));
            }
            if (sees("size")) {
                openOne();
                Sum inner = one();
                open--;
                return s -> Math.abs(inner.of(s));
            }
            if (sees("ago")) {
                next++;
                int k = number(1, 9);
                int part = List.of("away", "speed", "pace", "wind", "goal").indexOf(name(true));
                return s -> s.kept.size() < k ? 0 : s.kept.get(s.kept.size() - k)[part];
            }
            if (sees("if")) {
                openOne();
                Ask ask = either();
                need("then");
                Sum yes = sum();
                need("else");
                Sum no = sum();
                need("end");
                open--;
                return s -> ask.of(s) ? yes.of(s) : no.of(s);
            }
            String name = name(false);
            return s -> s.named(name);
        }

        Ask either() {
            Ask all = both();
            while (sees("or")) {
                next++;
                Ask a = all;
                Ask b = both();
                all = s -> a.of(s) | b.of(s);
            }
            return all;
        }

        Ask both() {
            Ask all = ask();
            while (sees("and")) {
                next++;
                Ask a = all;
                Ask b = ask();
                all = s -> a.of(s) & b.of(s);
            }
            return all;
        }

        Ask ask() {
            if (sees("not")) {
                openOne();
                Ask inner = ask();
                open--;
                return s -> !inner.of(s);
            }
            Sum a = sum();
            String sign = peek().sign;
            if (!List.of("<", "<=", ">", ">=", "=", "#").contains(sign)) {
                throw wrong(1);
            }
            next++;
            Sum b = sum();
            switch (sign) {
                case "<": return s -> a.of(s) < b.of(s);
                case "<=": return s -> a.of(s) <= b.of(s);
                case ">": return s -> a.of(s) > b.of(s);
                case ">=": return s -> a.of(s) >= b.of(s);
                case "=": return s -> a.of(s) == b.of(s);
                default: return s -> a.of(s) != b.of(s);
            }
        }
    }

    // ---- the state

    /** All that a STEP can change. */
    private static final class Crane {
        int place, pace, load, speed, rope = 5, weight, wind, goal, tenth, x = 59, hooked = -1;
        boolean windStands;
        boolean[] landed = new boolean[8];
        List<int[]> kept = new ArrayList<>();
        List<int[]> written = new ArrayList<>();

        Crane copy() {
            Crane c = new Crane();
            c.place = place;
            c.pace = pace;
            c.load = load;
            c.speed = speed;
            c.rope = rope;
            c.weight = weight;
            c.wind = wind;
            c.goal = goal;
            c.tenth = tenth;
            c.x = x;
            c.hooked = hooked;
            c.windStands = windStands;
            c.landed = landed.clone();
            c.kept = new ArrayList<>(kept);
            c.written = new ArrayList<>(written);
            return c;
        }

        int away() {
            return place - load;
        }

        Sight sight() {
            Sight s = new Sight();
            s.away = away();
            s.speed = speed;
            s.pace = pace;
            s.wind = wind;
            s.goal = goal - place;
            s.rope = rope;
            s.weight = weight;
            s.kept = kept;
            return s;
        }

        void anew() {
            x = (x * 263 + 157) % 30253;
        }

        void tenth(int command, Script rules) {
            int[] row = {away(), speed, pace, wind, goal - place, command};
            Sum pacesLaw = rules.law("paces");
            int paces = pacesLaw == null ? 3 : (int) clamp(pacesLaw.of(sight()), 0, 9);
            pace = (int) clamp(pace + command, -paces, paces);
            place += pace;
            if (place < 0) {
                place = 0;
                pace = 0;
            }
            if (place > 600) {
                place = 600;
                pace = 0;
            }
            Sum swingsLaw = rules.law("swings");
            long swings = swingsLaw == null ? away() / rope : swingsLaw.of(sight());
            speed = (int) clamp(speed + clamp(swings, -99, 99), -99, 99);
            load = (int) clamp(load + speed, -9999, 9999);
            if (!windStands) {
                if ((tenth + 1) % 40 == 0) {
                    wind = x % 10;
                    anew();
                } else if (wind > 0) {
                    wind--;
                }
            }
            tenth++;
            kept.add(row);
            if (kept.size() > 60) {
                kept.remove(0);
            }
        }

        boolean still(int near) {
            return pace == 0 && Math.abs(place - goal) <= near && Math.abs(away()) <= near && Math.abs(speed) <= 1;
        }
    }

    private static final class All {
        Crane crane = new Crane();
        List<Crane> steps = new ArrayList<>();
        List<int[]> orders = new ArrayList<>();
        List<Script> texts = new ArrayList<>();
        int near = 2;
        int ruling = -1;
        List<int[]> saids = new ArrayList<>();
        List<int[]> bars = new ArrayList<>();

        All copy() {
            All a = new All();
            a.crane = crane.copy();
            for (Crane c : steps) {
                a.steps.add(c.copy());
            }
            a.orders.addAll(orders);
            a.texts.addAll(texts);
            a.near = near;
            a.ruling = ruling;
            a.saids.addAll(saids);
            a.bars.addAll(bars);
            return a;
        }
    }

    private All all = new All();
    private All image = new All();
    private List<Byte> tape = new ArrayList<>();
    private int fault = -1;
    private int faultPlace = -1;

    static long clamp(long v, long least, long most) {
        return v < least ? least : v > most ? most : v;
    }

    private Script rules() {
        return all.ruling < 0 ? new Script() : all.texts.get(all.ruling);
    }

    private static int hand(Script hands, Sight sight) {
        Sum law = hands.law("hand");
        return Long.signum(law == null ? sight.goal : law.of(sight));
    }

    private void step() {
        all.steps.add(all.crane.copy());
        if (all.steps.size() > 30) {
            all.steps.remove(0);
        }
    }

    private boolean isText(int t) {
        return t >= 0 && t < all.texts.size();
    }

    private boolean isOrder(int o) {
        return o >= 0 && o < all.orders.size();
    }

    private List<Integer> set(int bits) {
        List<Integer> out = new ArrayList<>();
        for (int o = 0; o < 32; o++) {
            if ((bits >> o & 1) == 1) {
                if (!isOrder(o)) {
                    return new ArrayList<>();
                }
                out.add(o);
            }
        }
        return out;
    }

    // ---- the face

    int order(int weight, int yard, int due, int men, int jib) {
        if (weight < 1 || weight > 99 || yard < 0 || yard > 60 || due < 0 || due > 999 || men < 0 || men > 9
                || jib < 0 || jib > 1 || all.orders.size() == 8) {
            return -1;
        }
        all.orders.add(new int[] {weight, yard, due, men, jib});
        return all.orders.size() - 1;
    }

    boolean near(int inches) {
        if (inches < 0 || inches > 99) {
            return false;
        }
        all.near = inches;
        return true;
    }

    int feed(int... five) {
        if (tape.size() > 280) {
            return -1;
        }
        for (int v : five) {
            tape.add((byte) (v >>> 24));
            tape.add((byte) (v >>> 16));
            tape.add((byte) (v >>> 8));
            tape.add((byte) v);
        }
        return tape.size();
    }

    int end(int n) {
        if (n < 0 || n > tape.size()) {
            return -1;
        }
        tape = new ArrayList<>(tape.subList(0, n));
        return n;
    }

    int text() {
        if (all.texts.size() == 4) {
            return -1;
        }
        byte[] bytes = new byte[tape.size()];
        for (int i = 0; i < bytes.length; i++) {
            bytes[i] = tape.get(i);
        }
        tape.clear();
        try {
            all.texts.add(new Parser(bytes).script());
            fault = 0;
            faultPlace = -1;
            return all.texts.size() - 1;
        } catch (Fault f) {
            fault = f.what;
            faultPlace = f.place;
            return -1;
        }
    }

    int fault(int what) {
        return what == 0 ? fault : what == 1 ? faultPlace : -1;
    }

    boolean by(int text) {
        if (text != -1 && !isText(text)) {
            return false;
        }
        all.ruling = text;
        return true;
    }

    int move(int command) {
        if (command < -1 || command > 1 || all.crane.tenth >= 9999) {
            return -1;
        }
        step();
        all.crane.tenth(command, rules());
        return all.crane.place;
    }

    int run(int n) {
        if (n < 1 || n > 60 || all.crane.tenth + n > 9999) {
            return -1;
        }
        for (int i = 0; i < n; i++) {
            move(hand(rules(), all.crane.sight()));
        }
        return all.crane.place;
    }

    boolean hoist(int rope) {
        if (rope < 1 || rope > 24 || rope == all.crane.rope) {
            return false;
        }
        step();
        all.crane.rope = rope;
        return true;
    }

    boolean aim(int goal) {
        if (goal < 0 || goal > 600 || goal == all.crane.goal) {
            return false;
        }
        step();
        all.crane.goal = goal;
        return true;
    }

    boolean hook(int order) {
        if (!isOrder(order) || all.crane.landed[order] || all.crane.hooked >= 0) {
            return false;
        }
        step();
        all.crane.hooked = order;
        all.crane.weight = all.orders.get(order)[0];
        all.crane.goal = all.orders.get(order)[1] * 10;
        return true;
    }

    int land() {
        int order = all.crane.hooked;
        if (order < 0 || !all.crane.still(all.near)) {
            return -1;
        }
        step();
        all.crane.hooked = -1;
        all.crane.weight = 0;
        all.crane.landed[order] = true;
        all.crane.written.add(new int[] {order, all.crane.tenth});
        if (all.crane.written.size() > 20) {
            all.crane.written.remove(0);
        }
        return order;
    }

    int played(int text) {
        if (!isText(text)) {
            return -2;
        }
        List<Clause> clauses = all.texts.get(text).clauses;
        for (int i = 0; i < clauses.size(); i++) {
            int[] n = clauses.get(i).numbers;
            boolean did = true;
            switch (clauses.get(i).word) {
                case "order": did = order(n[0], n[1], n[2], n[3], n[4]) >= 0; break;
                case "move": did = move(n[0]) >= 0; break;
                case "run":
                    for (int k = 0; k < n[0] && did; k++) {
                        did = move(hand(rules(), all.crane.sight())) >= 0;
                    }
                    break;
                case "rope": did = hoist(n[0]); break;
                case "aim": did = aim(n[0]); break;
                case "hook": did = hook(n[0]); break;
                case "land": did = land() >= 0; break;
                default: break;
            }
            if (!did) {
                return i;
            }
        }
        return -1;
    }

    int storm(int seed, int n) {
        if (seed < 0 || seed > 9999 || n < 1 || n > 40 || all.crane.tenth + n > 9999) {
            return -1;
        }
        step();
        Crane c = all.crane;
        c.x = seed * 3 + 59;
        for (int i = 0; i < n; i++) {
            c.wind = c.x % 10;
            c.anew();
            c.tenth(c.x % 3 - 1, rules());
            c.anew();
        }
        return c.place;
    }

    int undo() {
        if (all.steps.isEmpty()) {
            return -1;
        }
        all.crane = all.steps.remove(all.steps.size() - 1);
        return all.steps.size();
    }

    int jib(int what) {
        Crane c = all.crane;
        int[] row = {c.place, c.pace, c.load, c.speed, c.away(), c.rope, c.weight, c.wind, c.goal, c.tenth,
            c.still(all.near) ? 1 : 0, c.hooked, hand(rules(), c.sight())};
        return what < 0 || what > 12 ? -100000 : row[what];
    }

    private int holds(int yard) {
        Sum law = rules().law("holds");
        Sight s = new Sight();
        s.yard = yard;
        return law == null ? 60 - yard : (int) clamp(law.of(s), 0, 99);
    }

    private int lasts(int order) {
        Sum law = rules().law("lasts");
        Sight s = new Sight();
        s.rope = all.crane.rope;
        s.weight = all.orders.get(order)[0];
        s.yard = all.orders.get(order)[1];
        return law == null ? s.yard / 10 + 1 : (int) clamp(law.of(s), 1, 99);
    }

    int ofOrder(int order, int what) {
        if (!isOrder(order) || what < 0 || what > 7) {
            return -1;
        }
        if (what < 5) {
            return all.orders.get(order)[what];
        }
        return what == 5 ? all.crane.landed[order] ? 1 : 0
            : what == 6 ? lasts(order) : holds(all.orders.get(order)[1]);
    }

    int ago(int k, int what) {
        if (k < 1 || k > all.crane.kept.size() || what < 0 || what > 5) {
            return -100000;
        }
        return all.crane.kept.get(all.crane.kept.size() - k)[what];
    }

    int foretold(int n, boolean run, int what) {
        if (n < 1 || n > 200 || what < 0 || what > 3) {
            return -100000;
        }
        Crane c = all.crane.copy();
        int far = 0;
        int still = -1;
        for (int k = 1; k <= n; k++) {
            c.tenth(run ? hand(rules(), c.sight()) : 0, rules());
            far = Math.max(far, Math.abs(c.away()));
            if (still < 0 && c.still(all.near)) {
                still = k;
            }
        }
        return what == 0 ? c.place : what == 1 ? c.load : what == 2 ? far : still;
    }

    /** Every row of COMMANDS, by its length and then from the lowest on; the first that is least by its key. */
    private int[] commands(boolean sparing) {
        int[] best = null;
        int least = 0;
        for (int n = 0; n <= 7; n++) {
            int rows = (int) Math.pow(3, n);
            for (int r = 0; r < rows; r++) {
                int[] row = new int[n];
                int given = 0;
                for (int i = n - 1, rest = r; i >= 0; i--, rest /= 3) {
                    row[i] = rest % 3 - 1;
                    given += Math.abs(row[i]);
                }
                int key = sparing ? given : 0;
                if (best != null && key >= least) {
                    continue;
                }
                Crane c = all.crane.copy();
                for (int command : row) {
                    c.tenth(command, rules());
                }
                if (c.still(all.near)) {
                    best = row;
                    least = key;
                }
            }
        }
        return best;
    }

    int soonest(int i) {
        int[] row = commands(false);
        if (row == null || i < -1 || i >= row.length) {
            return -2;
        }
        return i == -1 ? row.length : row[i];
    }

    int fewest(int i) {
        int[] row = commands(true);
        if (row == null || i < -1 || i >= row.length) {
            return -2;
        }
        int given = 0;
        for (int command : row) {
            given += command == 0 ? 0 : 1;
        }
        return i == -1 ? given : row[i];
    }

    int toAndFro(int n) {
        if (n < 2 || n > 200) {
            return -1;
        }
        Crane c = all.crane.copy();
        List<Integer> turns = new ArrayList<>();
        for (int k = 1; k <= n; k++) {
            int before = c.away();
            c.tenth(0, rules());
            if (before <= 0 && c.away() > 0) {
                turns.add(k);
            }
        }
        return turns.size() < 2 ? -1 : turns.get(1) - turns.get(0);
    }

    private static long part(BigInteger upper, BigInteger lower, boolean low) {
        BigInteger g = upper.gcd(lower);
        if (g.signum() == 0) {
            return low ? 1 : 0;
        }
        return (low ? lower : upper).divide(g).longValueExact();
    }

    long calm(int n, int b, boolean low) {
        if (n < 1 || n > 9 || b < 0 || b > 9) {
            return -1;
        }
        return part(BigInteger.valueOf(b + 1).pow(n), BigInteger.TEN.pow(n), low);
    }

    private List<Integer> sizes(int text, int n) {
        Crane c = all.crane.copy();
        List<Integer> out = new ArrayList<>();
        for (int k = 0; k < n; k++) {
            c.tenth(hand(all.texts.get(text), c.sight()), rules());
            out.add(Math.abs(c.away()));
        }
        return out;
    }

    private static int greatest(List<Integer> sizes) {
        int g = 0;
        for (int s : sizes) {
            g = Math.max(g, s);
        }
        return g;
    }

    int dies(int text, int n) {
        if (!isText(text) || n < 2 || n > 200 || n % 2 == 1) {
            return -2;
        }
        List<Integer> sizes = sizes(text, n);
        int first = greatest(sizes.subList(0, n / 2));
        int later = greatest(sizes.subList(n / 2, n));
        return later < first ? -1 : later > first ? 1 : 0;
    }

    int calmest(int n) {
        if (n < 2 || n > 200 || n % 2 == 1) {
            return -1;
        }
        int best = -1;
        for (int t = 0; t < all.texts.size(); t++) {
            if (best < 0 || greatest(sizes(t, n)) < greatest(sizes(best, n))) {
                best = t;
            }
        }
        return best;
    }

    int whoseHand() {
        int bits = 0;
        List<int[]> kept = all.crane.kept;
        for (int t = 0; t < all.texts.size(); t++) {
            boolean his = true;
            for (int k = 0; k < kept.size(); k++) {
                Sight s = new Sight();
                s.away = kept.get(k)[0];
                s.speed = kept.get(k)[1];
                s.pace = kept.get(k)[2];
                s.wind = kept.get(k)[3];
                s.goal = kept.get(k)[4];
                s.rope = all.crane.rope;
                s.weight = all.crane.weight;
                s.kept = kept.subList(0, k);
                his &= hand(all.texts.get(t), s) == kept.get(k)[5];
            }
            bits |= his ? 1 << t : 0;
        }
        return bits;
    }

    int dayEnds(int n, int bound) {
        if (n < 1 || n > 200 || bound < 0 || bound > 9999) {
            return -1;
        }
        for (int w = 1; w <= 9; w++) {
            Crane c = all.crane.copy();
            c.wind = w;
            c.windStands = true;
            int far = 0;
            for (int k = 0; k < n; k++) {
                c.tenth(0, rules());
                far = Math.max(far, Math.abs(c.away()));
            }
            if (far > bound) {
                return w;
            }
        }
        return -1;
    }

    private int lift(int text, int order) {
        Crane c = new Crane();
        c.windStands = true;
        c.rope = all.crane.rope;
        c.weight = all.orders.get(order)[0];
        c.goal = all.orders.get(order)[1] * 10;
        for (int k = 1; k <= 200; k++) {
            c.tenth(hand(all.texts.get(text), c.sight()), rules());
            if (c.still(all.near)) {
                return k;
            }
        }
        return 200;
    }

    int saves(int one, int other, int orders) {
        List<Integer> set = set(orders);
        if (!isText(one) || !isText(other) || one == other || set.isEmpty()) {
            return -100000;
        }
        int saved = 0;
        for (int o : set) {
            saved += lift(other, o) - lift(one, o);
        }
        return saved;
    }

    private int stillBehind(Crane from, int wait) {
        Crane c = from.copy();
        for (int k = 1; k <= 200; k++) {
            c.tenth(k <= wait ? 0 : hand(rules(), c.sight()), rules());
            if (k > wait && c.still(all.near)) {
                return k;
            }
        }
        return 999;
    }

    int whenToGo() {
        int best = -1;
        int least = 999;
        for (int wait = 0; wait <= 60; wait++) {
            int k = stillBehind(all.crane, wait);
            if (k < least) {
                least = k;
                best = wait;
            }
        }
        return best;
    }

    int whichRope() {
        int best = -1;
        int least = 999;
        for (int rope = 1; rope <= 24; rope++) {
            Crane c = all.crane.copy();
            c.rope = rope;
            int k = stillBehind(c, 0);
            if (k < least) {
                least = k;
                best = rope;
            }
        }
        return best;
    }

    int bar(int from, int to, int begin, int end) {
        if (from == -1) {
            all.bars.clear();
            return 0;
        }
        if (from < 0 || to > 600 || from > to || begin < 0 || end > 9999 || begin > end || all.bars.size() == 4) {
            return -2;
        }
        all.bars.add(new int[] {from, to, begin, end});
        return all.bars.size();
    }

    int barred(int n, boolean run) {
        if (n < 1 || n > 200) {
            return -1;
        }
        Crane c = all.crane.copy();
        for (int k = 1; k <= n; k++) {
            c.tenth(run ? hand(rules(), c.sight()) : 0, rules());
            for (int[] b : all.bars) {
                if (c.place >= b[0] && c.place <= b[1] && c.tenth >= b[2] && c.tenth <= b[3]) {
                    return k;
                }
            }
        }
        return -1;
    }

    int howFar(int weight) {
        if (weight < 1 || weight > 99) {
            return -1;
        }
        for (int yard = 0; yard <= 60; yard++) {
            if (holds(yard) < weight) {
                return yard - 1;
            }
        }
        return 60;
    }

    int over() {
        int bits = 0;
        for (int o = 0; o < all.orders.size(); o++) {
            bits |= all.orders.get(o)[0] > holds(all.orders.get(o)[1]) ? 1 << o : 0;
        }
        return bits;
    }

    private int bestCost;
    private List<Integer> bestRow;

    /** All rows of the set, from the lowest first ORDER on. */
    private void rows(List<Integer> row, List<Integer> left, int minute, int cost) {
        if (left.isEmpty() && (bestRow == null || cost < bestCost)) {
            bestRow = new ArrayList<>(row);
            bestCost = cost;
        }
        for (int o : left) {
            int end = minute + lasts(o);
            if (end <= all.orders.get(o)[2]) {
                List<Integer> more = new ArrayList<>(row);
                more.add(o);
                List<Integer> less = new ArrayList<>(left);
                less.remove(Integer.valueOf(o));
                rows(more, less, end, cost + all.orders.get(o)[3] * end);
            }
        }
    }

    int first(int orders, int i) {
        List<Integer> set = set(orders);
        if (set.isEmpty() || set.size() > 7) {
            return -1;
        }
        bestRow = null;
        rows(new ArrayList<>(), set, 0, 0);
        if (bestRow == null || i < -1 || i >= set.size()) {
            return -1;
        }
        return i == -1 ? bestCost : bestRow.get(i);
    }

    private int[] bestBegins;

    private void merges(List<Integer> row, List<Integer> left) {
        if (left.isEmpty()) {
            int[] begins = new int[8];
            int[] ends = new int[8];
            int done = 0;
            for (int i = 0; i < row.size(); i++) {
                int[] o = all.orders.get(row.get(i));
                for (int k = 0; k < i; k++) {
                    int[] p = all.orders.get(row.get(k));
                    if (p[4] == o[4] || Math.abs(p[1] - o[1]) < 10) {
                        begins[row.get(i)] = Math.max(begins[row.get(i)], ends[row.get(k)]);
                    }
                }
                ends[row.get(i)] = begins[row.get(i)] + lasts(row.get(i));
                done = Math.max(done, ends[row.get(i)]);
            }
            if (bestBegins == null || done < bestCost) {
                bestCost = done;
                bestBegins = begins;
            }
            return;
        }
        for (int o : left) {
            boolean firstOfJib = true;
            for (int p : left) {
                firstOfJib &= p >= o || all.orders.get(p)[4] != all.orders.get(o)[4];
            }
            if (firstOfJib) {
                List<Integer> more = new ArrayList<>(row);
                more.add(o);
                List<Integer> less = new ArrayList<>(left);
                less.remove(Integer.valueOf(o));
                merges(more, less);
            }
        }
    }

    int twoJibs(int orders, int order) {
        List<Integer> set = set(orders);
        if (set.isEmpty() || order != -1 && !set.contains(order)) {
            return -1;
        }
        bestBegins = null;
        merges(new ArrayList<>(), set);
        return order == -1 ? bestCost : bestBegins[order];
    }

    int said(int r, boolean left) {
        if (r == -1) {
            all.saids.clear();
            return 0;
        }
        if (r < 0 || r > 10 || all.saids.size() == 8) {
            return -2;
        }
        all.saids.add(new int[] {r, left ? 1 : 0});
        return all.saids.size();
    }

    long left(boolean low) {
        BigInteger isLeft = BigInteger.ONE;
        BigInteger isRight = BigInteger.ONE;
        for (int[] s : all.saids) {
            boolean left = s[1] == 1;
            isLeft = isLeft.multiply(BigInteger.valueOf(left ? s[0] : 10 - s[0]));
            isRight = isRight.multiply(BigInteger.valueOf(left ? 10 - s[0] : s[0]));
        }
        return part(isLeft, isLeft.add(isRight), low);
    }

    int landed(int i, int what) {
        List<int[]> w = all.crane.written;
        if (i == -1) {
            return w.size();
        }
        return i < 0 || i >= w.size() || what < 0 || what > 1 ? -2 : w.get(i)[what];
    }

    int hour(int n) {
        if (n < 1 || n > 9999) {
            return -1;
        }
        int many = 0;
        for (int[] w : all.crane.written) {
            many += w[1] > all.crane.tenth - n ? 1 : 0;
        }
        return many;
    }

    int mean(boolean low) {
        List<int[]> w = all.crane.written;
        if (w.size() < 2) {
            return -1;
        }
        int sum = 0;
        for (int i = 1; i < w.size(); i++) {
            sum += w.get(i)[1] - w.get(i - 1)[1];
        }
        return (int) part(BigInteger.valueOf(sum), BigInteger.valueOf(w.size() - 1), low);
    }

    int image() {
        image = all.copy();
        return all.crane.tenth;
    }

    int back() {
        all = image.copy();
        return all.crane.tenth;
    }

    int about(int what) {
        int[] row = {all.orders.size(), all.near, all.crane.x, all.texts.size(), all.ruling, all.steps.size(),
            all.saids.size(), all.crane.kept.size(), tape.size(), all.bars.size()};
        return what < 0 || what > 9 ? -2 : row[what];
    }
}
