/** Promises 4 to 8: the tape, texts, their faults, and how sums are reckoned. */
public final class TextsTest {
    public static void main(String[] args) {
        tape();
        texts();
        by();
        soundTexts();
        misplaced();
        numbers();
        openTooDeep();
        again();
        names();
        tooMany();
        sums();
        asks();
        agoInLaws();
        Checks.close();
    }

    private static void tape() {
        HookSwings x = new HookSwings();
        for (int n = 20; n <= 300; n += 20) {
            Checks.is("feed", x.feed(0x20202020, 0x20202020, 0x20202020, 0x20202020, 0x20202020), n);
        }
        Checks.is("feed more than 300", x.feed(0, 0, 0, 0, 0), -1);
        Checks.is("bytes", x.about(8), 300);
        Checks.is("end 301", x.end(301), -1);
        Checks.is("end -1", x.end(-1), -1);
        Checks.is("end 300", x.end(300), 300);
        Checks.is("end 281", x.end(281), 281);
        Checks.is("301 would be more", x.feed(0, 0, 0, 0, 0), -1);
        Checks.is("end 280", x.end(280), 280);
        Checks.is("end 281 then", x.end(281), -1);
        Checks.is("300 are not more", x.feed(0x20202020, 0x20202020, 0x20202020, 0x20202020, 0x6c616e64), 300);
        Checks.is("the last is a clause without its end", x.text(), -1);
        Checks.is("fault", x.fault(0), 1);
        Checks.is("place", x.fault(1), 300);
        Checks.is("empty then", x.about(8), 0);
        Checks.is("the highest first", x.feed(0x6c616e64, 0x3b000000, 0, 0, 0), 20);
        x.end(5);
        Checks.is("land;", x.text(), 0);
    }

    private static void texts() {
        HookSwings x = new HookSwings();
        Checks.is("ahead of any", x.fault(0), -1);
        Checks.is("ahead of any, place", x.fault(1), -1);
        Checks.is("empty text", x.text(), 0);
        Checks.is("no fault", x.fault(0), 0);
        Checks.is("no place", x.fault(1), -1);
        Checks.is("fault 2", x.fault(2), -1);
        Checks.is("fault -1", x.fault(-1), -1);
        for (int i = 1; i < 4; i++) {
            Checks.is("text", Checks.text(x, "run " + i + ";"), i);
        }
        Checks.is("texts", x.about(3), 4);
        Checks.is("a fifth", Checks.text(x, "what"), -1);
        Checks.is("the tape stays", x.about(8), 4);
        Checks.is("it was not read", x.fault(0), 0);
        Checks.is("a fault empties the tape", Checks.text(new HookSwings(), "what"), -1);
        HookSwings y = new HookSwings();
        Checks.text(y, "land; what");
        Checks.is("empty behind a fault", y.about(8), 0);
        Checks.is("no text", y.about(3), 0);
        Checks.is("sound then", Checks.text(y, "land;"), 0);
        Checks.is("fault then", y.fault(0), 0);
        Checks.is("place then", y.fault(1), -1);
        Checks.is("played is what was sound", y.played(0), 0);
        Checks.tape(y, "run 61;");
        y.end(5);
        y.text();
        Checks.is("what stood behind the end isn't read", y.fault(0), 1);
        Checks.is("place at the end", y.fault(1), 5);
        for (int i = 0; i < 60; i++) {
            Checks.text(y, "holds 1;paces if 1<2 then ((((1+2+3+4+5)*2");
        }
        Checks.is("faults leave nothing behind", Checks.text(y, "hand ((((((((0-7))))))));holds 50;"), 1);
        y.by(1);
        Checks.is("the law of the sound text", y.jib(12), -1);
        Checks.is("another law of it", y.howFar(50), 60);
    }

    private static void by() {
        HookSwings x = new HookSwings();
        Checks.is("by 0 of none", x.by(0), false);
        Checks.text(x, "hand 1;");
        Checks.is("by 0", x.by(0), true);
        Checks.is("the text", x.about(4), 0);
        Checks.is("by 1", x.by(1), false);
        Checks.is("by -2", x.by(-2), false);
        Checks.is("it stays", x.about(4), 0);
        Checks.is("by none", x.by(-1), true);
        Checks.is("none", x.about(4), -1);
        Checks.is("by is no step", x.about(5), 0);
    }

    private static void soundTexts() {
        String[] sound = {"", " ", "\n\n", "land;", "move out;move in;move on;", "run 1;run 60;rope 1;rope 24;aim 0;aim 600;",
            "hook 0;hook 7;", "order 1 at 0 due 0 men 0 on 0;order 99 at 60 due 999 men 9 on 1;", "paces\n1\n;",
            "hand((((((((1))))))));", "hand - - - - - - - - 1;", "hand 1- -1;", "hand ago 9 away+ago 1 speed;",
            "hand ago1away;", "hand 0000009999;", "run 0060;",
            "hand if not not 1<2 and 1<=2 or 1>2 and 1>=2 or 1=2 or 1#2 then 1 else 0-1 end;",
            "hand if(1)<(2)then(1)else(2)end;", "hand if not 1<1 and not 1<1 and not 1<1 and not 1<1 and not 1<1 "
                + "or not 1<1 or not 1<1 or not 1<1 or not 1<1 then -1 else -1 end;", "lasts rope+weight+yard;holds yard;paces rope+weight;swings wind+goal;",
            "hand (((((((1)))))))+(((((((1)))))));", "hand size size size size size size size size 1;",
            "hand if not if not if not if not 1<2 then 1 else 1 end<2 then 1 else 1 end<2 then 1 else 1 end<2 then 1 else 1 end;"};
        for (String text : sound) {
            Checks.fault(text, 0, -1);
        }
    }

    private static void misplaced() {
        Checks.fault("x", 1, 0);
        Checks.fault("Land;", 1, 0);
        Checks.fault("lands;", 1, 0);
        Checks.fault("lan d;", 1, 0);
        Checks.fault("land;;", 1, 5);
        Checks.fault("land;~", 1, 5);
        Checks.fault("land;\t", 1, 5);
        Checks.fault("land;\0", 1, 5);
        Checks.fault("land; ", 0, -1);
        Checks.fault("land ", 1, 5);
        Checks.fault("12345;", 1, 0);
        Checks.fault("land 12345;", 1, 5);
        Checks.fault("move out", 1, 8);
        Checks.fault("move;", 1, 4);
        Checks.fault("move 1;", 1, 5);
        Checks.fault("run out;", 1, 4);
        Checks.fault("run -1;", 1, 4);
        Checks.fault("rope;", 1, 4);
        Checks.fault("rope away;", 1, 5);
        Checks.fault("order 1 at 1 due 1 men 1;", 1, 24);
        Checks.fault("order 1 at 1 due 1 men 1 in 1;", 1, 25);
        Checks.fault("order 1 due 1;", 1, 8);
        Checks.fault("hand;", 1, 4);
        Checks.fault("hand", 1, 4);
        Checks.fault("hand 1", 1, 6);
        Checks.fault("hand 1 +;", 1, 8);
        Checks.fault("hand + 1;", 1, 5);
        Checks.fault("hand 1 1;", 1, 7);
        Checks.fault("hand (1;", 1, 7);
        Checks.fault("hand 1);", 1, 6);
        Checks.fault("hand ();", 1, 6);
        Checks.fault("hand foo;", 1, 5);
        Checks.fault("hand not 1<2;", 1, 5);
        for (String word : "paces order move run aim hook land at due men in on out if then else end or and not".split(" ")) {
            boolean opens = word.equals("if");
            Checks.fault("hand " + word + ";", 1, opens ? 7 : 5);
            Checks.fault("hand ago 1 " + word + ";", 1, 11);
            Checks.fault("hand 1 " + word + ";", 1, 7);
        }
        for (String word : "paces rope land away yard at due men if then end ago".split(" ")) {
            Checks.fault("move " + word + ";", 1, 5);
            Checks.fault("run " + word + ";", 1, 4);
        }
        for (String sign : "< <= > >= = # * / ) ; +".split(" ")) {
            Checks.fault("hand " + sign, 1, 5);
            Checks.fault("land;" + sign, 1, 5);
        }
        Checks.fault("hand ago 1 foo;", 1, 11);
        Checks.fault("hand ago away;", 1, 9);
        Checks.fault("hand ago 1 (away);", 1, 11);
        Checks.fault("hand ago 1;", 1, 10);
        Checks.fault("hand if 1 then 2 else 3 end;", 1, 10);
        Checks.fault("hand if (1<2) then 2 else 3 end;", 1, 10);
        Checks.fault("hand if 1<2<3 then 2 else 3 end;", 1, 11);
        Checks.fault("hand if 1<2 else 3 end;", 1, 12);
        Checks.fault("hand if 1<2 then 3 end;", 1, 19);
        Checks.fault("hand if 1<2 then 3 else 4;", 1, 25);
        Checks.fault("hand if 1=>2 then 3 else 4 end;", 1, 10);
        Checks.fault("hand if 1<2 or then 3 else 4 end;", 1, 15);
        Checks.fault("hand if 1<2 and not then 3 else 4 end;", 1, 20);
        Checks.fault("hand hand;", 1, 5);
        Checks.fault("hand 1,2;", 1, 6);
        Checks.fault("(((((((((", 1, 0);
    }

    private static void numbers() {
        Checks.fault("hand 10000;", 2, 5);
        Checks.fault("hand 99999999999999999999;", 2, 5);
        Checks.fault("hand 4294967297;", 2, 5);
        Checks.fault("order 0 at 0 due 0 men 0 on 0;", 2, 6);
        Checks.fault("order 100 at 0 due 0 men 0 on 0;", 2, 6);
        Checks.fault("order 1 at 61 due 0 men 0 on 0;", 2, 11);
        Checks.fault("order 1 at 0 due 1000 men 0 on 0;", 2, 17);
        Checks.fault("order 1 at 0 due 0 men 10 on 0;", 2, 23);
        Checks.fault("order 1 at 0 due 0 men 0 on 2;", 2, 28);
        Checks.fault("order 1 at 0 due 0 men 0 on 10000;", 2, 28);
        Checks.fault("run 0;", 2, 4);
        Checks.fault("run 61;", 2, 4);
        Checks.fault("rope 0;", 2, 5);
        Checks.fault("rope 25;", 2, 5);
        Checks.fault("aim 601;", 2, 4);
        Checks.fault("hook 8;", 2, 5);
        Checks.fault("hand ago 0 away;", 2, 9);
        Checks.fault("hand ago 10 away;", 2, 9);
        Checks.fault("run 0 what", 2, 4);
    }

    private static void openTooDeep() {
        Checks.fault("hand (((((((((1)))))))));", 3, 13);
        Checks.fault("hand ---------1;", 3, 13);
        Checks.fault("hand ((((((((1-1))))))));", 0, -1);
        Checks.fault("hand ((((((((-1))))))));", 3, 13);
        Checks.fault("hand ((((((((size 1))))))));", 3, 13);
        Checks.fault("hand ((((((((if 1<2 then 1 else 1 end))))))));", 3, 13);
        Checks.fault("hand (((((((if not 1<2 then 1 else 1 end)))))));", 3, 15);
        Checks.fault("hand (((((((if 1<2 then (1) else 1 end)))))));", 3, 24);
        Checks.fault("hand (((((((if 1<2 then 1 else (1) end)))))));", 3, 31);
        Checks.fault("hand (((((((if 1<2 then 1 else 1 end+(1))))))));", 0, -1);
        Checks.fault("hand size -size -size -size -(1);", 3, 29);
        Checks.fault("hand size -size -size -size -1+(1);", 0, -1);
        Checks.fault("hand if not not not not not not not not 1<2 then 1 else 2 end;", 3, 36);
    }

    private static void again() {
        String[] laws = {"paces", "swings", "hand", "holds", "lasts"};
        for (String law : laws) {
            Checks.fault(law + " 1;land;" + law + " 2;", 4, law.length() + 8);
        }
        Checks.fault("rope 1;rope 1;run 1;run 1;", 0, -1);
    }

    private static void names() {
        String[] laws = {"paces", "swings", "hand", "holds", "lasts"};
        String[] names = {"away", "speed", "pace", "wind", "goal", "rope", "weight", "yard"};
        String[] can = {"11111110", "11111110", "11111110", "00000001", "00000111"};
        for (int l = 0; l < 5; l++) {
            for (int n = 0; n < 8; n++) {
                boolean sound = can[l].charAt(n) == '1';
                Checks.fault(laws[l] + " " + names[n] + ";", sound ? 0 : 5, sound ? -1 : laws[l].length() + 1);
                boolean back = l < 3 && n < 5;
                Checks.fault(laws[l] + " ago 2 " + names[n] + ";", back ? 0 : 5, back ? -1 : laws[l].length() + 7);
            }
        }
    }

    private static void tooMany() {
        StringBuilder full = new StringBuilder("hand 1;");
        for (int i = 1; i < 24; i++) {
            full.append("land;");
        }
        Checks.fault(full.toString(), 0, -1);
        Checks.fault(full + "land;", 6, full.length());
        Checks.fault(full + " run 0;", 6, full.length() + 1);
        Checks.fault(full + "hand 2;", 4, full.length());
        Checks.fault(full + "what;", 1, full.length());
        Checks.fault(full + "paces 2;", 6, full.length());
    }

    /** The value of a sum, as far as 0 .. 99, by the law of holds at yard 0. */
    private static void sum(String sum, int due) {
        HookSwings x = new HookSwings();
        x.order(1, 7, 0, 0, 0);
        Checks.is("text of " + sum, Checks.text(x, "holds " + sum + ";"), 0);
        x.by(0);
        Checks.is(sum, x.ofOrder(0, 7), due);
    }

    private static void sums() {
        sum("1+2*3", 7);
        sum("(1+2)*3", 9);
        sum("9-4-3", 2);
        sum("9-(4-3)", 8);
        sum("100/7/2", 7);
        sum("7/2*2", 6);
        sum("5-7/0", 5);
        sum("10-(0-7)/2", 13);
        sum("10- -7/2", 13);
        sum("10+7/(0-2)", 7);
        sum("size (3-8)", 5);
        sum("size -4+1", 5);
        sum("-1+3", 2);
        sum("- size - 3+5", 2);
        sum("9999*9999-9999*100-50", 50);
        sum("9999*9999*9999/9999-50", 50);
        sum("9999*9999-9999*9999*9999+44", 44);
        sum("0-9999*9999+9999*100+119", 19);
        sum("(0-9999*9999-9999+9999*100+60)/(0-1)", 40);
        sum("9999*100+9999*100-9999*100-1", 99);
        sum("1000*1000-9999*100-50", 50);
        sum("1000*1000+1-9999*100-50", 50);
        sum("0-1000*1000-1+1000*1000+7", 7);
        sum("yard*yard", 49);
    }

    private static void ask(String ask, boolean due) {
        sum("if " + ask + " then 11 else 22 end", due ? 11 : 22);
    }

    private static void asks() {
        ask("1<2", true);
        ask("2<2", false);
        ask("2<=2", true);
        ask("3<=2", false);
        ask("3>2", true);
        ask("2>2", false);
        ask("2>=2", true);
        ask("1>=2", false);
        ask("2=2", true);
        ask("1=2", false);
        ask("1#2", true);
        ask("2#2", false);
        ask("not 1<2", false);
        ask("not not 1<2", true);
        ask("not 1<2 or 1<2", true);
        ask("not 2<1 and 2<1", false);
        ask("1<2 or 1<2 and 2<1", true);
        ask("2<1 and 2<1 or 1<2", true);
        ask("2<1 or 2<1", false);
        ask("1<2 and 1<2", true);
        ask("if 1<2 then 0 else 5 end=0", true);
        sum("if 1<2 then 3 else 4 end*2+1", 7);
        sum("1+if 2<1 then 3 else if 1<2 then 5 else 6 end end", 6);
        String deep = "1";
        for (int i = 0; i < 8; i++) {
            deep = "if1=2or1=1and1<1+1*" + deep + "then1else2end ";
        }
        sum("1+1*" + deep, 2);
        sum("if yard<8 then if yard>7 then 1 else 2 end else 3 end", 2);
        sum("if yard>8 then if yard>7 then 1 else 2 end else 3 end", 3);
    }

    private static void agoInLaws() {
        HookSwings x = new HookSwings();
        Checks.text(x, "swings ago 1 goal*10+ago 2 goal;hand ago 3 goal;");
        x.by(0);
        x.aim(3);
        x.move(0);
        Checks.is("nothing was kept", x.jib(3), 0);
        Checks.is("hand: nothing 3 ago", x.jib(12), 0);
        x.move(0);
        Checks.is("1 ago", x.jib(3), 30);
        x.move(0);
        Checks.is("1 and 2 ago", x.jib(3), 63);
        Checks.is("hand: 3 ago", x.jib(12), 1);
        x.undo();
        Checks.is("hand: not any more", x.jib(12), 0);
        HookSwings y = new HookSwings();
        Checks.text(y, "paces if ago 9 pace=1 then 9 else 1 end;");
        y.by(0);
        for (int i = 0; i < 10; i++) {
            y.move(1);
        }
        Checks.is("9 ago it was 0", y.jib(1), 1);
        y.move(1);
        Checks.is("9 ago it was 1", y.jib(1), 2);
    }
}
