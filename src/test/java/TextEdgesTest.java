/** "==== II." and promises 4 to 8: each bound of a tape, a TEXT, its FAULTS and its laws, and just beyond it. */
public final class TextEdgesTest {
    private static final String[] LAWS = {"paces", "swings", "hand", "holds", "lasts"};

    public static void main(String[] args) {
        feed();
        feedHighestFirst();
        end();
        text();
        faultOf();
        by();
        longestText();
        wordsAtTheEnd();
        tokens();
        strangeSigns();
        everyPrefix();
        cutTapes();
        numbersTold();
        numbersInSums();
        openEightDeep();
        openInEachOther();
        closedAgain();
        secondLaws();
        namesOfLaws();
        clauses();
        leastOfOne();
        firstOfAll();
        million();
        division();
        signs();
        asks();
        agoNotKept();
        lawOfPaces();
        lawOfSwings();
        lawOfHand();
        lawOfHolds();
        lawOfLasts();
        noLaws();
        played();
        Checks.close();
    }

    private static HookSwings ruled(String text) {
        HookSwings x = new HookSwings();
        Checks.is("text '" + text + "'", Checks.text(x, text), 0);
        x.by(0);
        return x;
    }

    private static String times(int many, String what) {
        return what.repeat(many);
    }

    private static void sound(String text) {
        Checks.fault(text, 0, -1);
    }

    // ---- the tape

    private static void feed() {
        HookSwings x = new HookSwings();
        Checks.is("an empty tape", x.about(8), 0);
        for (int n = 20; n <= 300; n += 20) {
            Checks.is("it has", x.feed(0, 0, 0, 0, 0), n);
        }
        Checks.is("320", x.feed(0, 0, 0, 0, 0), -1);
        Checks.is("none came", x.about(8), 300);
        x.end(281);
        Checks.is("301", x.feed(0, 0, 0, 0, 0), -1);
        Checks.is("none came of 301", x.about(8), 281);
        x.end(280);
        Checks.is("300", x.feed(0, 0, 0, 0, 0), 300);
        x.end(1);
        Checks.is("behind the tape", x.feed(0, 0, 0, 0, 0), 21);
    }

    private static void feedHighestFirst() {
        HookSwings x = new HookSwings();
        // "land;run 1;rope 24;" and a blank
        x.feed(0x6c616e64, 0x3b72756e, 0x20313b72, 0x6f706520, 0x32343b20);
        Checks.is("read", x.text(), 0);
        x.order(1, 0, 0, 0, 0);
        x.hook(0);
        Checks.is("all is done", x.played(0), -1);
        Checks.is("rope 24", x.jib(5), 24);
        Checks.is("a byte of 255 is one", x.feed(0xffffffff, 0, 0, 0, 0), 20);
        Checks.is("no TEXT", x.text(), -1);
        Checks.is("it is no TOKEN", x.fault(0), 1);
        Checks.is("the first byte", x.fault(1), 0);
        x.feed(0x200a200a, 0x20202080, 0, 0, 0);
        Checks.is("no TEXT with a byte of 128", x.text(), -1);
        Checks.is("place", x.fault(1), 7);
    }

    private static void end() {
        HookSwings x = new HookSwings();
        Checks.is("0 of 0", x.end(0), 0);
        Checks.is("1 of 0", x.end(1), -1);
        Checks.is("-1 of 0", x.end(-1), -1);
        x.feed(0x6c616e64, 0x3b3b0000, 0, 0, 0);
        Checks.is("21 of 20", x.end(21), -1);
        Checks.is("20 stay", x.about(8), 20);
        Checks.is("20 of 20", x.end(20), 20);
        Checks.is("6 of 20", x.end(6), 6);
        Checks.is("7 of 6", x.end(7), -1);
        Checks.is("-1 of 6", x.end(-1), -1);
        Checks.is("6 stay", x.about(8), 6);
        Checks.is("5 of 6", x.end(5), 5);
        Checks.is("the first 5 alone", x.text(), 0);
    }

    private static void text() {
        HookSwings x = new HookSwings();
        Checks.is("empty: number 0", x.text(), 0);
        Checks.is("with a FAULT", Checks.text(x, "land"), -1);
        Checks.is("the tape is empty then", x.about(8), 0);
        Checks.is("one TEXT", x.about(3), 1);
        for (int i = 1; i < 4; i++) {
            Checks.is("number", Checks.text(x, "aim " + i + ";"), i);
            Checks.is("the tape is empty", x.about(8), 0);
            Checks.is("TEXTS", x.about(3), i + 1);
        }
        Checks.tape(x, "aim 9;");
        Checks.is("there are 4", x.text(), -1);
        Checks.is("the tape stays", x.about(8), 6);
        Checks.is("4 TEXTS", x.about(3), 4);
        Checks.is("played is the 4th", x.played(3), -1);
        Checks.is("aim 3", x.jib(8), 3);
        Checks.is("no 5th", x.played(4), -2);
        x.back();
        Checks.is("none behind BACK", x.about(3), 0);
        Checks.is("the tape stayed", x.text(), 0);
        Checks.is("as it was", x.played(0), -1);
        Checks.is("aim 9", x.jib(8), 9);
    }

    private static void faultOf() {
        HookSwings x = new HookSwings();
        for (int what = -1; what <= 2; what++) {
            Checks.is("ahead of any: " + what, x.fault(what), -1);
        }
        Checks.text(x, "run 61;");
        int[] due = {-1, 2, 4, -1};
        for (int what = -1; what <= 2; what++) {
            Checks.is("with a FAULT: " + what, x.fault(what), due[what + 1]);
        }
        Checks.text(x, "run 60;");
        Checks.is("without: 0", x.fault(0), 0);
        Checks.is("without: its place", x.fault(1), -1);
        Checks.is("without: 2", x.fault(2), -1);
        for (int i = 0; i < 3; i++) {
            Checks.text(x, "");
        }
        Checks.text(x, "run 61;");
        Checks.is("with 4 TEXTS none is read", x.fault(0), 0);
        x.back();
        Checks.is("BACK leaves the FAULT", x.fault(0), 0);
        Checks.is("read now", x.text(), -1);
        Checks.is("its FAULT", x.fault(0), 2);
        x.back();
        Checks.is("BACK leaves it, too", x.fault(0), 2);
        Checks.is("and its place", x.fault(1), 4);
    }

    private static void by() {
        HookSwings x = new HookSwings();
        Checks.is("THE TEXT at first", x.about(4), -1);
        Checks.is("0 of none", x.by(0), false);
        Checks.is("none of none", x.by(-1), true);
        for (int i = 0; i < 4; i++) {
            Checks.text(x, "hand " + i + "-1;");
            Checks.is("the latest", x.by(i), true);
            Checks.is("the next", x.by(i + 1), false);
            Checks.is("-2", x.by(-2), false);
            Checks.is("THE TEXT", x.about(4), i);
            Checks.is("its hand", x.jib(12), i < 1 ? -1 : i == 1 ? 0 : 1);
        }
        Checks.is("none", x.by(-1), true);
        Checks.is("no TEXT", x.about(4), -1);
        Checks.is("the hand of none", x.jib(12), 0);
    }

    // ---- tokens and their places

    private static void longestText() {
        sound(times(295, " ") + "land;");
        sound("land;" + times(295, "\n"));
        Checks.fault(times(296, " ") + "land", 1, 300);
        Checks.fault(times(299, " ") + "x", 1, 299);
        Checks.fault(times(298, " ") + "10", 1, 298);
        sound("hand " + times(294, "0") + ";");
        sound("hand " + times(290, "0") + "9999;");
        Checks.fault("hand " + times(289, "0") + "10000;", 2, 5);
        Checks.fault("hand " + times(294, "9") + ";", 2, 5);
        Checks.fault("hand 1" + times(147, "+1"), 1, 300);
        sound("hand 1" + times(146, "+1") + " ;");
        Checks.fault(times(300, "a"), 1, 0);
        Checks.fault(times(300, "("), 1, 0);
        Checks.fault("hand " + times(295, "("), 3, 13);
        sound("hand-1*1/1" + times(144, "*1") + ";");
    }

    /** A full tape that ends with a word, or with the beginning of one. */
    private static void wordsAtTheEnd() {
        String words = "paces swings hand holds lasts order move run rope aim hook land away speed pace wind goal weight yard"
            + " at due men in on out if then else end or and not size ago";
        String clauses = " paces swings hand holds lasts order move run rope aim hook land ";
        String names = " away speed pace wind goal rope weight ";
        for (String word : words.split(" ")) {
            for (int n = 1; n <= word.length(); n++) {
                String part = word.substring(0, n);
                boolean clause = clauses.contains(" " + part + " ");
                Checks.fault(times(300 - n, " ") + part, 1, clause ? 300 : 300 - n);
                boolean goesOn = names.contains(" " + part + " ") || part.equals("if") || part.equals("size") || part.equals("ago");
                boolean yard = part.equals("yard");
                Checks.fault("hand" + times(296 - n, " ") + part, yard ? 5 : 1, goesOn ? 300 : 300 - n);
            }
        }
    }

    private static void tokens() {
        sound("land;land;");
        Checks.fault("landland;", 1, 0);
        Checks.fault("lAnd;", 1, 0);
        Checks.fault("LAND;", 1, 0);
        Checks.fault("run60 run;", 1, 6);
        sound("run60;");
        Checks.fault("run 6 0;", 1, 6);
        sound("run\n\n 60\n;\n");
        sound("hand if 1<=1 then 1 else 1 end;");
        Checks.fault("hand if 1< =1 then 1 else 1 end;", 1, 11);
        Checks.fault("hand if 1<>1 then 1 else 1 end;", 1, 10);
        Checks.fault("hand if 1==1 then 1 else 1 end;", 1, 10);
        Checks.fault("hand if 1<=>1 then 1 else 1 end;", 1, 11);
        Checks.fault("hand if 1>==1 then 1 else 1 end;", 1, 11);
        Checks.fault("hand if 1=<1 then 1 else 1 end;", 1, 10);
        sound("hand if 1<-1 then 1 else 1 end;");
        sound("hand if 1#-1 then 1 else 1 end;");
        sound("hand 1--1;");
        sound("hand 1*-1/-size-1;");
        Checks.fault("hand 1*+1;", 1, 7);
        sound("move out;");
        Checks.fault("moveout;", 1, 0);
        Checks.fault("move outs;", 1, 5);
        Checks.fault("move ou;", 1, 5);
        Checks.fault("hand aways;", 1, 5);
        Checks.fault("hand awa;", 1, 5);
        Checks.fault("pace 1;", 1, 0);
        Checks.fault("swing 1;", 1, 0);
        Checks.fault("ropes 1;", 1, 0);
    }

    private static void strangeSigns() {
        for (int sign = 0; sign < 256; sign++) {
            char c = (char) sign;
            boolean blank = c == ' ' || c == '\n';
            Checks.fault("land;" + c, blank ? 0 : 1, blank ? -1 : 5);
            boolean joins = c >= 'a' && c <= 'z' || c >= 'A' && c <= 'Z';
            Checks.fault("land" + c + ";", blank ? 0 : 1, blank ? -1 : joins ? 0 : c == ';' ? 5 : 4);
        }
    }

    /** A TEXT that ends too soon has FAULT 1 at its length. */
    private static void everyPrefix() {
        String text = "paces if not away < 1 and speed # - 2 or ago 3 wind >= ( 4 ) then size pace * 5 else rope / 6 end ;"
            + " order 7 at 8 due 9 men 1 on 1 ; move in ; run 2 ; rope 3 ; aim 4 ; hook 5 ; land ; swings 1 - 2 ; holds yard ;"
            + " lasts weight ;";
        String[] tokens = text.split(" ");
        StringBuilder prefix = new StringBuilder();
        for (String token : tokens) {
            prefix.append(token);
            boolean whole = token.equals(";");
            Checks.fault(prefix.toString(), whole ? 0 : 1, whole ? -1 : prefix.length());
            prefix.append(' ');
            Checks.fault(prefix.toString(), whole ? 0 : 1, whole ? -1 : prefix.length());
            Checks.fault(prefix + "~", 1, prefix.length());
        }
    }

    /** What stood behind the end of the tape is not read, also if it would make a word or a NUMBER longer. */
    private static void cutTapes() {
        String[] wholes = {"move in;", "move on;", "move out;", "land;", "run 60;", "rope 24;", "hand away;", "hand ago 1 pace;",
            "paces 1;", "pace 1;", "hand size 1;", "hand if 1<=2 then 1 else 2 end;", "hand if 1<2 or 1>=2 and 1#2 then 1 else 2 end;",
            "order 1 at 2 due 3 men 4 on 1;", "aim 600;", "hook 7;", "holds yard;", "lasts weight+rope;", "swings speed+wind+goal;"};
        for (String whole : wholes) {
            for (int n = 0; n <= whole.length(); n++) {
                HookSwings cut = new HookSwings();
                Checks.tape(cut, whole);
                cut.end(n);
                HookSwings clean = new HookSwings();
                Checks.tape(clean, whole.substring(0, n));
                String what = "the first " + n + " of '" + whole + "'";
                Checks.is(what, cut.text(), clean.text());
                Checks.is(what + ": its FAULT", cut.fault(0), clean.fault(0));
                Checks.is(what + ": its place", cut.fault(1), clean.fault(1));
            }
        }
        cutAt("move in;", 6, 1, 5);
        cutAt("paces 1;", 4, 1, 0);
        cutAt("hand pace;", 7, 1, 5);
        cutAt("hand 1;run 60;", 12, 1, 12);
        cutAt("run 600;", 6, 1, 6);
        cutAt("hand if 1<=2", 10, 1, 10);
    }

    private static void cutAt(String whole, int n, int fault, int place) {
        HookSwings x = new HookSwings();
        Checks.tape(x, whole);
        x.end(n);
        Checks.is("no TEXT of the first " + n + " of '" + whole + "'", x.text(), -1);
        Checks.is("its FAULT", x.fault(0), fault);
        Checks.is("its place", x.fault(1), place);
    }

    // ---- numbers

    private static void numberTold(String before, String behind, int least, int most) {
        sound(before + least + behind);
        sound(before + most + behind);
        sound(before + "000" + most + behind);
        if (least > 0) {
            Checks.fault(before + (least - 1) + behind, 2, before.length());
        } else {
            Checks.fault(before + "-1" + behind, 1, before.length());
        }
        Checks.fault(before + (most + 1) + behind, 2, before.length());
        Checks.fault(before + "9999" + behind, 2, before.length());
        Checks.fault(before + "10000" + behind, 2, before.length());
        Checks.fault(before + "4294967296" + least + behind, 2, before.length());
        Checks.fault(before + "18446744073709551616" + behind, 2, before.length());
        Checks.fault(before + behind, 1, behind.startsWith(" ") ? before.length() + 1 : before.length());
        Checks.fault(before + "away" + behind, 1, before.length());
        Checks.fault(before + "(1)" + behind, 1, before.length());
    }

    private static void numbersTold() {
        numberTold("order ", " at 0 due 0 men 0 on 0;", 1, 99);
        numberTold("order 1 at ", " due 0 men 0 on 0;", 0, 60);
        numberTold("order 1 at 0 due ", " men 0 on 0;", 0, 999);
        numberTold("order 1 at 0 due 0 men ", " on 0;", 0, 9);
        numberTold("order 1 at 0 due 0 men 0 on ", ";", 0, 1);
        numberTold("run ", ";", 1, 60);
        numberTold("rope ", ";", 1, 24);
        numberTold("aim ", ";", 0, 600);
        numberTold("hook ", ";", 0, 7);
        numberTold("hand ago ", " away;", 1, 9);
    }

    private static void numbersInSums() {
        sound("hand 0;");
        sound("hand 9999;");
        sound("hand 09999;");
        Checks.fault("hand 10000;", 2, 5);
        Checks.fault("hand 1+(2*10000);", 2, 10);
        Checks.fault("hand if 10000<1 then 1 else 1 end;", 2, 8);
        Checks.fault("hand if 1<1 then 1 else 10000 end;", 2, 24);
        Checks.fault("hand -10000;", 2, 6);
        Checks.fault("hand 2147483648;", 2, 5);
        Checks.fault("hand 4294967296;", 2, 5);
        Checks.fault("hand 100000000000000000000000000000;", 2, 5);
    }

    // ---- open around one another

    private static void openEightDeep() {
        sound("hand " + times(8, "(") + "1" + times(8, ")") + ";");
        Checks.fault("hand " + times(9, "(") + "1" + times(9, ")") + ";", 3, 13);
        sound("hand " + times(8, "-") + "1;");
        Checks.fault("hand " + times(9, "-") + "1;", 3, 13);
        sound("hand " + times(8, "size ") + "1;");
        Checks.fault("hand " + times(9, "size ") + "1;", 3, 45);
        String choice = "if 1<1 then 1 else ";
        sound("hand " + times(8, choice) + "1 " + times(8, "end ") + ";");
        Checks.fault("hand " + times(9, choice) + "1 " + times(9, "end ") + ";", 3, 5 + 8 * choice.length());
        sound("hand if " + times(7, "not ") + "1<1 then 1 else 1 end;");
        Checks.fault("hand if " + times(8, "not ") + "1<1 then 1 else 1 end;", 3, 8 + 28);
        String asked = "if ";
        sound("hand " + times(8, asked) + "1" + times(8, "<1 then 1 else 1 end ") + ";");
        Checks.fault("hand " + times(9, asked) + "1" + times(9, "<1 then 1 else 1 end ") + ";", 3, 5 + 24);
    }

    private static void openInEachOther() {
        String[] openers = {"(", "-", "size ", "if 1<1 then 1 else "};
        for (String outer : openers) {
            for (String inner : openers) {
                String before = "hand " + times(7, outer);
                Checks.fault(before + inner + "(", 3, before.length() + inner.length());
                Checks.fault(before + inner + "-", 3, before.length() + inner.length());
                Checks.fault(before + inner + "size", 3, before.length() + inner.length());
                Checks.fault(before + inner + "if", 3, before.length() + inner.length());
                Checks.fault(before + inner + "not", 1, before.length() + inner.length());
                Checks.fault(before + inner + "1", 1, before.length() + inner.length() + 1);
            }
            String asks = "hand " + times(6, outer) + "if ";
            Checks.fault(asks + "not not", 3, asks.length() + 4);
            Checks.fault(asks + "not (", 3, asks.length() + 4);
            Checks.fault(asks + "not -", 3, asks.length() + 4);
            Checks.fault(asks + "not if", 3, asks.length() + 4);
            Checks.fault(asks + "1<((", 3, asks.length() + 3);
            Checks.fault(asks + "1<1 then (-", 3, asks.length() + 10);
            Checks.fault(asks + "1<1 then 1 else size-", 3, asks.length() + 20);
        }
    }

    private static void closedAgain() {
        sound("hand " + times(7, "(") + "(1)+(1)-(1)" + times(7, ")") + ";");
        sound("hand " + times(7, "(") + "-1+-1*-1" + times(7, ")") + ";");
        sound("hand " + times(7, "(") + "size 1+size 1*size 1" + times(7, ")") + ";");
        sound("hand " + times(6, "(") + "if not 1<1 and not 1<1 or not 1<1 then -1 else -1 end+(1)" + times(6, ")") + ";");
        sound("hand " + times(7, "-") + "if 1<1 then 1 else 1 end-if 1<1 then 1 else 1 end;");
        sound("hand " + times(8, "-") + "1;paces " + times(8, "-") + "1;swings " + times(8, "(") + "1" + times(8, ")") + ";");
        // A minus between two PRODUCTS opens nothing.
        sound("hand " + times(8, "(") + "1-1-1-1-1-1-1-1-1-1" + times(8, ")") + ";");
        Checks.fault("hand " + times(8, "(") + "1--1" + times(8, ")") + ";", 3, 15);
    }

    // ---- laws, names, clauses

    private static void secondLaws() {
        for (String law : LAWS) {
            Checks.fault(law + " 1;" + law + " 1;", 4, law.length() + 3);
            Checks.fault(law + " 1;land; " + law, 4, law.length() + 9);
            for (String other : LAWS) {
                if (!other.equals(law)) {
                    sound(law + " 1;" + other + " 1;");
                }
            }
        }
        sound("paces 1;swings 1;hand 1;holds 1;lasts 1;");
        sound("run 1;run 1;rope 1;rope 1;aim 1;aim 1;hook 1;hook 1;land;land;move on;move on;");
        sound("order 1 at 1 due 1 men 1 on 1;order 1 at 1 due 1 men 1 on 1;");
    }

    private static void namesOfLaws() {
        String[] names = {"away", "speed", "pace", "wind", "goal", "rope", "weight", "yard"};
        String[] can = {"11111110", "11111110", "11111110", "00000001", "00000111"};
        for (int l = 0; l < 5; l++) {
            for (int n = 0; n < 8; n++) {
                String before = LAWS[l] + " 1+(if 2<";
                String behind = " then 1 else 2 end);";
                boolean sound = can[l].charAt(n) == '1';
                Checks.fault(before + names[n] + behind, sound ? 0 : 5, sound ? -1 : before.length());
                boolean back = l < 3 && n < 5;
                int place = before.length() + 6;
                Checks.fault(before + "ago 1 " + names[n] + behind, back ? 0 : 5, back ? -1 : place);
                Checks.fault(before + "ago 9 " + names[n] + behind, back ? 0 : 5, back ? -1 : place);
                Checks.fault(before + "ago 10 " + names[n] + behind, 2, before.length() + 4);
                Checks.fault(before + "ago " + names[n] + behind, 1, before.length() + 4);
            }
        }
        // The names of a law are those of the CLAUSE that is read, not of one ahead of it.
        Checks.fault("holds yard;hand yard;", 5, 16);
        Checks.fault("hand away;holds away;", 5, 16);
        Checks.fault("lasts rope;holds rope;", 5, 17);
    }

    private static void clauses() {
        String[] kinds = {"land;", "run 1;", "rope 1;", "aim 1;", "hook 1;", "move on;"};
        for (String kind : kinds) {
            sound(times(24, kind));
            Checks.fault(times(25, kind), 6, 24 * kind.length());
            Checks.fault(times(24, kind) + " \n" + kind, 6, 24 * kind.length() + 2);
            Checks.fault(times(24, kind) + kind.substring(0, 2), 1, 24 * kind.length());
        }
        String orders = times(8, "order 1 at 1 due 1 men 1 on 1;");
        sound(orders + times(9, "land;"));
        String laws = "paces 1;swings 1;hand 1;holds 1;";
        sound(laws + times(20, "land;"));
        Checks.fault(laws + times(20, "land;") + "lasts 1;", 6, laws.length() + 100);
        Checks.fault(laws + times(20, "land;") + "order", 6, laws.length() + 100);
        sound(laws + times(19, "land;") + "lasts 1;");
    }

    private static void leastOfOne() {
        Checks.fault("10000", 1, 0);
        Checks.fault("land 10000", 1, 5);
        Checks.fault("hand 1 10000;", 1, 7);
        Checks.fault("hand ago 1 10000;", 1, 11);
        Checks.fault("move 10000;", 1, 5);
        Checks.fault("hand " + times(8, "(") + "1(", 1, 14);
        Checks.fault("hand " + times(8, "(") + "1 if", 1, 15);
        Checks.fault("hand " + times(8, "(") + "not", 1, 13);
        Checks.fault("hand 1 hand 1;", 1, 7);
        Checks.fault("hand 1;hand;", 4, 7);
        Checks.fault("hand 1 yard;", 1, 7);
        Checks.fault("run yard;", 1, 4);
        Checks.fault(times(24, "land;") + "~", 1, 120);
        Checks.fault(times(24, "land;") + "away", 1, 120);
        Checks.fault("hand 1;" + times(23, "land;") + "hand 1;", 4, 122);
        Checks.fault("hand 1;" + times(23, "land;") + "paces 1;", 6, 122);
        Checks.fault(times(24, "land;") + "run 99;", 6, 120);
    }

    private static void firstOfAll() {
        Checks.fault("run 0 ~", 2, 4);
        Checks.fault("hand yard+10000;", 5, 5);
        Checks.fault("hand 10000+yard;", 2, 5);
        Checks.fault("hand (((((((((10000", 3, 13);
        Checks.fault("hand 1;hand yard;", 4, 7);
        Checks.fault("hand yard;hand 1;", 5, 5);
        Checks.fault("order 0 at 99;", 2, 6);
        Checks.fault("order 1 at 99 what;", 2, 11);
        Checks.fault("order 1 what 99;", 1, 8);
        Checks.fault("hand ago 0 yard;", 2, 9);
        Checks.fault(times(25, "land;") + "~", 6, 120);
    }

    // ---- how it is reckoned

    /** The value of a sum, as far as 0 .. 99. */
    private static void sum(String sum, int due) {
        HookSwings x = ruled("holds " + sum + ";");
        x.order(1, 7, 0, 0, 0);
        Checks.is(sum, x.ofOrder(0, 7), due);
    }

    private static void million() {
        sum("1000*1000-1000*1000+50", 50);
        sum("1000*1000-1-1000*1000+50", 49);
        sum("1000*1000+1-1000*1000+50", 50);
        sum("1000*1000+1-1-1000*1000+50", 49);
        sum("1000*1000+9999-1000*1000+50", 50);
        sum("1000*1001-1000*1000+50", 50);
        sum("1001*999-1000*1000+50", 49);
        sum("1000*1000*2/2/9999", 50);
        sum("1000*1000/2*2/9999", 99);
        sum("0-1000*1000+1000*1000+50", 50);
        sum("0-1000*1000+1+1000*1000+50", 51);
        sum("0-1000*1000-1+1000*1000+50", 50);
        sum("0-1000*1000-1+1+1000*1000+50", 51);
        sum("-1000*1001+1000*1000+50", 50);
        sum("1000*-1001+1000*1000+50", 50);
        sum("-1001*999+1000*1000+50", 51);
        sum("-1000*-1001-1000*1000+50", 50);
        sum("9999*9999*(9999*9999)-1000*1000+50", 50);
        sum("9999*9999*(-9999*9999)+1000*1000+50", 50);
        sum("-9999*9999*(-9999*9999)-1000*1000+50", 50);
        sum("9999*9999-(0-9999*9999)-1000*1000+50", 50);
        sum("size(0-9999*9999)-1000*1000+50", 50);
        sum("-(9999*9999)+1000*1000+50", 50);
        sum("9999*9999/(9999*9999)", 1);
    }

    private static void division() {
        sum("7/2", 3);
        sum("50+-7/2", 47);
        sum("50+7/-2", 47);
        sum("50+-7/-2", 53);
        sum("50+-1/2", 50);
        sum("50+1/-2", 50);
        sum("50+(0-9)/9", 49);
        sum("50+(0-8)/9", 50);
        sum("50+7/0", 50);
        sum("50+-7/0", 50);
        sum("50+0/0", 50);
        sum("50+0/7", 50);
        sum("50+7/(3-3)*5", 50);
        sum("50+9999*9999/0", 50);
        sum("50+1/9999", 50);
        sum("100/10/5", 2);
        sum("100/(10/5)", 50);
        sum("100/3*3", 99);
        sum("3*100/30", 10);
        sum("20-5-5", 10);
        sum("20-(5-5)", 20);
        sum("2+3*4-5", 9);
    }

    /** size and - of what is above 0, of 0, and of what is below. */
    private static void signs() {
        sum("size 7", 7);
        sum("size 0", 0);
        sum("size -7", 7);
        sum("size(2-9)", 7);
        sum("size(9-2)", 7);
        sum("size size 7", 7);
        sum("-size 7+50", 43);
        sum("-size -7+50", 43);
        sum("size yard", 7);
        sum("-7+50", 43);
        sum("-0+50", 50);
        sum("--7", 7);
        sum("-(2-9)", 7);
        sum("-(9-2)+50", 43);
        sum("size 3*5", 15);
        sum("-3*5+50", 35);
    }

    /** Each sign with each other one beside or and and, and under not. */
    private static void asks() {
        String[] trues = {"1<2", "1<=2", "2<=2", "2>1", "2>=1", "2>=2", "2=2", "1#2", "not 2<1", "not not 1<2"};
        String[] falses = {"2<1", "2<2", "2<=1", "1>2", "2>2", "1>=2", "1=2", "2#2", "not 1<2", "not 2=2"};
        for (int i = 0; i < trues.length; i++) {
            ask(trues[i], true);
            ask(falses[i], false);
            ask("not " + trues[i], false);
            ask("not " + falses[i], true);
            for (int k = 0; k < trues.length; k++) {
                ask(trues[i] + " and " + trues[k], true);
                ask(trues[i] + " and " + falses[k], false);
                ask(falses[i] + " and " + trues[k], false);
                ask(falses[i] + " and " + falses[k], false);
                ask(trues[i] + " or " + trues[k], true);
                ask(trues[i] + " or " + falses[k], true);
                ask(falses[i] + " or " + trues[k], true);
                ask(falses[i] + " or " + falses[k], false);
            }
        }
        ask("1<2 or 1<2 and 2<1", true);
        ask("2<1 and 1<2 or 1<2", true);
        ask("1<2 and 2<1 or 2<1 and 1<2", false);
        ask("not 1<2 and 2<1", false);
        ask("not 2<1 or 1<2", true);
        // Both sides are looked at always, also where a division by 0 stands.
        ask("1<2 or 1/0=0", true);
        ask("2<1 and 1/0=0", false);
        sum("if 1<2 then 5 else 1/0 end", 5);
    }

    private static void ask(String ask, boolean due) {
        sum("if " + ask + " then 11 else 22 end", due ? 11 : 22);
    }

    /** Of TENTH k and less nothing is kept k ago; behind it there is. */
    private static void agoNotKept() {
        String[] names = {"away", "speed", "pace", "wind", "goal"};
        for (int k = 1; k <= 9; k++) {
            for (int t = 0; t <= 10; t++) {
                HookSwings x = ruled("hand ago " + k + " goal;");
                x.aim(9);
                for (int i = 0; i < t; i++) {
                    x.move(0);
                }
                Checks.is("ago " + k + " in TENTH " + t, x.jib(12), t >= k ? 1 : 0);
                Checks.is("foretold, too", x.foretold(1, true, 0), t >= k ? 1 : 0);
                Checks.is("and done", x.run(1), t >= k ? 1 : 0);
            }
        }
        for (String name : names) {
            HookSwings x = ruled("hand if ago 1 " + name + "=0 then 1 else 0 end;");
            Checks.is("0, if " + name + " isn't kept", x.jib(12), 1);
        }
        HookSwings y = ruled("swings if ago 1 goal=0 then 7 else 0 end;");
        y.aim(5);
        y.move(0);
        Checks.is("in the first TENTH nothing is kept", y.jib(3), 7);
        y.move(0);
        Checks.is("in the second one the first is", y.jib(3), 7);
        HookSwings z = ruled("paces if ago 1 goal=5 then 1 else 0 end;");
        z.aim(5);
        z.move(1);
        Checks.is("paces of the first TENTH", z.jib(1), 0);
        z.aim(6);
        z.move(1);
        Checks.is("what GOAL was then", z.jib(1), 1);
        z.move(1);
        Checks.is("and what it is now", z.jib(1), 0);
    }

    // ---- what each law is at least and at most

    private static void paces(String law, int due) {
        HookSwings x = ruled("paces " + law + ";");
        for (int i = 0; i < 12; i++) {
            x.move(1);
        }
        Checks.is("paces " + law, x.jib(1), due);
    }

    private static void lawOfPaces() {
        paces("0-9999", 0);
        paces("0-1", 0);
        paces("0", 0);
        paces("1", 1);
        paces("8", 8);
        paces("9", 9);
        paces("10", 9);
        paces("9999*9999", 9);
    }

    private static void swings(String law, int due) {
        HookSwings x = ruled("swings " + law + ";");
        x.move(0);
        Checks.is("swings " + law, x.jib(3), due);
        Checks.is("the LOAD by swings " + law, x.jib(2), due);
    }

    private static void lawOfSwings() {
        swings("0-9999*9999", -99);
        swings("0-100", -99);
        swings("0-99", -99);
        swings("0-98", -98);
        swings("98", 98);
        swings("99", 99);
        swings("100", 99);
        swings("9999*9999", 99);
        // From SPEED -99, 99 more is 0 and no more, whatever the law asks.
        HookSwings x = ruled("swings if speed=0 and pace=0 then 0-99 else 0 end+if pace=1 then 150 else 0 end;");
        x.move(0);
        x.move(1);
        Checks.is("99 at most, from -99", x.jib(3), 0);
    }

    private static void lawOfHand() {
        String[] laws = {"0-9999*9999", "0-2", "0-1", "0", "1", "2", "9999*9999"};
        int[] due = {-1, -1, -1, 0, 1, 1, 1};
        for (int i = 0; i < laws.length; i++) {
            Checks.is("hand " + laws[i], ruled("hand " + laws[i] + ";").jib(12), due[i]);
        }
    }

    private static void lawOfHolds() {
        sum("0-1", 0);
        sum("0", 0);
        sum("1", 1);
        sum("98", 98);
        sum("99", 99);
        sum("100", 99);
        sum("9999*9999", 99);
        sum("0-9999*9999", 0);
    }

    private static void lawOfLasts() {
        String[] laws = {"0-9999*9999", "0-1", "0", "1", "2", "98", "99", "100", "9999*9999"};
        int[] due = {1, 1, 1, 1, 2, 98, 99, 99, 99};
        for (int i = 0; i < laws.length; i++) {
            HookSwings x = ruled("lasts " + laws[i] + ";");
            x.order(1, 0, 0, 0, 0);
            Checks.is("lasts " + laws[i], x.ofOrder(0, 6), due[i]);
        }
    }

    /** What rules without a law, also if THE TEXT has others. */
    private static void noLaws() {
        int[] yards = {0, 9, 10, 59, 60};
        int[] lasts = {1, 1, 2, 6, 7};
        for (int i = 0; i < yards.length; i++) {
            HookSwings x = ruled(i % 2 == 0 ? "" : "hand 1;");
            x.order(1, yards[i], 0, 0, 0);
            Checks.is("lasts at YARD " + yards[i], x.ofOrder(0, 6), lasts[i]);
            Checks.is("holds at YARD " + yards[i], x.ofOrder(0, 7), 60 - yards[i]);
        }
        swung(5, 4, 0);
        swung(5, 5, 1);
        swung(5, 9, 1);
        swung(5, 10, 2);
        swung(1, 98, 98);
        swung(1, 99, 99);
        swung(1, 100, 99);
        swung(24, 23, 0);
        swung(24, 24, 1);
    }

    /** Without a law SPEED is more by AWAY by ROPE, cut, either way. */
    private static void swung(int rope, int away, int due) {
        for (int sign = -1; sign <= 1; sign += 2) {
            HookSwings x = new HookSwings();
            // The LOAD goes to where it is to be in two TENTHS, and stands there in the third.
            int first = Math.min(away, 99);
            String to = sign < 0 ? "+" : "-";
            Checks.text(x, "swings if goal=1 then 0" + to + first + " else if goal=2 then 0-speed" + to + (away - first)
                + " else 0-speed end end;");
            x.by(0);
            x.hoist(rope);
            for (int goal = 1; goal <= 3; goal++) {
                x.aim(goal);
                x.move(0);
            }
            Checks.is("AWAY", x.jib(4), away * sign);
            Checks.is("SPEED 0", x.jib(3), 0);
            x.by(-1);
            x.move(0);
            Checks.is("AWAY " + away * sign + " by ROPE " + rope, x.jib(3), due * sign);
        }
    }

    private static void played() {
        HookSwings x = new HookSwings();
        Checks.is("no TEXT 0", x.played(0), -2);
        Checks.text(x, "rope 6;hand 0;rope 6;aim 4;");
        Checks.text(x, "hand 1;paces 1;");
        Checks.text(x, "order 9 at 0 due 9 men 9 on 0;hook 7;aim 1;");
        Checks.text(x, "land;");
        Checks.is("-1", x.played(-1), -2);
        Checks.is("4", x.played(4), -2);
        Checks.is("laws alone", x.played(1), -1);
        Checks.is("nothing was done", x.about(5), 0);
        Checks.is("the second rope is so: CLAUSE 2 of all", x.played(0), 2);
        Checks.is("what was done stays", x.jib(5), 6);
        Checks.is("what is behind isn't", x.jib(8), 0);
        Checks.is("now the first is so", x.played(0), 0);
        Checks.is("nothing to land", x.played(3), 0);
        for (int i = 0; i < 7; i++) {
            Checks.is("no ORDER 7 to hook", x.played(2), 1);
            Checks.is("ORDERS", x.about(0), i + 1);
        }
        Checks.is("ORDER 7 is there", x.played(2), -1);
        Checks.is("HOOKED", x.jib(11), 7);
        Checks.is("8 ORDERS", x.played(2), 0);
    }
}
