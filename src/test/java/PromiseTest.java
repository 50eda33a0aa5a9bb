/** One method for each promise of the document: ordinary inputs, the edges that it names, wrong inputs. */
public final class PromiseTest {
    private static final int NONE = WorkedBack.NONE, UNKNOWN = WorkedBack.UNKNOWN, OUTSIDE = WorkedBack.OUTSIDE,
            STATE = WorkedBack.STATE, FULL = WorkedBack.FULL, NO = WorkedBack.NO;
    private static final int LEAST = 0, MOST = 1, HOLDS = 2, LOST = 3;

    private static int wrong;
    private static int promise;

    private static void due(String what, int got, int want) {
        if (got != want) {
            wrong++;
            System.out.println("promise " + promise + ": " + what + " answered " + got + ", due is " + want);
        }
    }

    private static int mix(int pa, int pb, int pc, int qa, int qb, int qc) {
        return ((((pa * 5 + pb) * 5 + pc) * 5 + qa) * 5 + qb) * 5 + qc;
    }

    private static void say(WorkedBack x, String text) {
        for (char sign : text.toCharArray()) x.say(sign);
    }

    private static int rule(WorkedBack x, String text) {
        x.wipe();
        say(x, text);
        return x.rule();
    }

    /** Nothing is kept from one month to the next, so that what is needed must be what came in. */
    private static WorkedBack strict() {
        WorkedBack x = new WorkedBack();
        for (int t = 0; t < 3; t++) x.stock(t, HOLDS, 0);
        return x;
    }

    private static void p1() {
        WorkedBack x = new WorkedBack();
        for (int what = 0; what < 3; what++) due("told", x.told(what), 0);
        due("told 3", x.told(3), NONE);
        int[] stocks = {0, 0, 199, 0};
        for (int i = 0; i < 12; i++) due("told stock " + i, x.told(10 + i), stocks[i % 4]);
        due("all", x.all(-1), 15625);
        due("tear", x.tear(), NO);
        due("restore", x.restore(0), STATE);
        due("fits", x.fits(15624, 2), 1);
    }

    private static void p2() {
        WorkedBack x = new WorkedBack();
        int[] most = {99, 99, 99, 5, 20, 20};
        for (int i = 0; i < 6; i++) {
            int[] v = new int[6];
            v[i] = most[i] + 1;
            due("too much of " + i, x.month(v[0], v[1], v[2], v[3], v[4], v[5]), OUTSIDE);
            v[i] = -1;
            due("too little of " + i, x.month(v[0], v[1], v[2], v[3], v[4], v[5]), OUTSIDE);
        }
        due("refused changes nothing", x.told(0), 0);
        due("first", x.month(99, 99, 99, 5, 20, 20), 0);
        due("second", x.month(1, 2, 3, 4, 5, 6), 1);
        for (int i = 0; i < 6; i++) due("about", x.about(1, i), i + 1);
        for (int i = 6; i < 9; i++) due("prices at first", x.about(1, i), 0);
        for (int i = 2; i < 8; i++) due("more", x.month(0, 0, 0, 0, 0, 0), i);
        due("ninth", x.month(0, 0, 0, 0, 0, 0), FULL);
        due("OUTSIDE comes ahead of FULL", x.month(100, 0, 0, 0, 0, 0), OUTSIDE);
        due("told", x.told(0), 8);
    }

    private static void p3() {
        WorkedBack x = new WorkedBack();
        due("no month", x.change(0, 0, 0), UNKNOWN);
        due("UNKNOWN comes first", x.change(0, 9, -1), UNKNOWN);
        x.month(1, 2, 3, 4, 5, 6);
        int[] most = {99, 99, 99, 5, 20, 20, 99, 99, 99};
        for (int what = 0; what < 9; what++) {
            due("above", x.change(0, what, most[what] + 1), OUTSIDE);
            due("below", x.change(0, what, -1), OUTSIDE);
            due("was", x.change(0, what, most[what]), what < 6 ? what + 1 : 0);
            due("was then", x.change(0, what, 0), most[what]);
            due("is", x.about(0, what), 0);
        }
        due("what", x.change(0, 9, 0), OUTSIDE);
        due("what", x.change(0, -1, 0), OUTSIDE);
        due("month", x.change(1, 0, 0), UNKNOWN);
        due("month", x.change(-1, 0, 0), UNKNOWN);
        x.stock(0, HOLDS, 0);
        due("all", x.all(-1), 15625);
        x.change(0, 0, 4);
        x.change(0, 4, 2);
        due("a change tells in all", x.all(-1), 125);
        due("pa is 2", x.ends(0, 0, 0), 2);
    }

    private static void p4() {
        WorkedBack x = new WorkedBack();
        due("no month", x.about(0, 0), UNKNOWN);
        due("UNKNOWN comes first", x.about(0, 9), UNKNOWN);
        x.month(10, 20, 30, 4, 5, 6);
        x.month(11, 21, 31, 5, 6, 7);
        int[] want = {11, 21, 31, 5, 6, 7, 0, 0, 0};
        for (int what = 0; what < 9; what++) due("about", x.about(1, what), want[what]);
        due("about the first", x.about(0, 0), 10);
        due("what", x.about(0, 9), OUTSIDE);
        due("what", x.about(0, -1), OUTSIDE);
        due("month", x.about(2, 0), UNKNOWN);
        due("month", x.about(-1, 0), UNKNOWN);
        due("extremes", x.about(Integer.MAX_VALUE, Integer.MIN_VALUE), UNKNOWN);
    }

    private static void p5() {
        WorkedBack x = new WorkedBack();
        due("none", x.tear(), NO);
        x.month(1, 1, 1, 1, 1, 1);
        x.month(2, 2, 2, 2, 2, 2);
        x.change(1, 6, 50);
        due("one is left", x.tear(), 1);
        due("it is gone", x.about(1, 0), UNKNOWN);
        due("the other is not", x.about(0, 0), 1);
        due("a new one has the number", x.month(3, 3, 3, 3, 3, 3), 1);
        due("and prices anew", x.about(1, 6), 0);
        due("left", x.tear(), 1);
        due("left", x.tear(), 0);
        due("none", x.tear(), NO);
    }

    private static void p6() {
        WorkedBack x = new WorkedBack();
        due("thing", x.stock(3, 0, 0), UNKNOWN);
        due("thing", x.stock(-1, 9, 999), UNKNOWN);
        int[] most = {99, 99, 199, 5};
        for (int what = 0; what < 4; what++) {
            due("above", x.stock(1, what, most[what] + 1), OUTSIDE);
            due("below", x.stock(1, what, -1), OUTSIDE);
        }
        due("what", x.stock(1, 4, 0), OUTSIDE);
        due("what", x.stock(1, -1, 0), OUTSIDE);
        due("least above most", x.stock(1, LEAST, 1), OUTSIDE);
        due("most", x.stock(1, MOST, 99), 0);
        due("least", x.stock(1, LEAST, 99), 0);
        due("most below least", x.stock(1, MOST, 98), OUTSIDE);
        due("most stays", x.told(15), 99);
        due("least", x.stock(1, LEAST, 98), 99);
        due("most", x.stock(1, MOST, 98), 99);
        due("holds", x.stock(1, HOLDS, 0), 199);
        due("holds", x.stock(1, HOLDS, 199), 0);
        due("lost", x.stock(1, LOST, 5), 0);
        due("lost", x.stock(1, LOST, 0), 5);
        due("another thing", x.told(11), 0);
        x.stock(1, HOLDS, 3);
        due("the first STOCK may be more than HOLDS", x.all(-1), 15625);
        x.month(0, 0, 0, 0, 20, 0);
        due("98 ahead, 80 can go, 3 may stay", x.fits(mix(0, 4, 0, 0, 0, 0), 1), 0);
        x.change(0, 5, 18);
        due("and 18 more", x.fits(mix(0, 4, 0, 0, 1, 0), 1), 1);
        x.change(0, 5, 15);
        due("3 stay", x.fits(mix(0, 4, 0, 0, 1, 0), 1), 1);
        x.change(0, 5, 14);
        due("4 would", x.fits(mix(0, 4, 0, 0, 1, 0), 1), 0);
        x.stock(1, LOST, 1);
        due("1 is lost", x.fits(mix(0, 4, 0, 0, 1, 0), 1), 1);
    }

    private static void p7() {
        WorkedBack x = new WorkedBack();
        int[][] bad = {{0, 0}, {-1, 0}, {0, -1}, {3, 0}, {0, 3}, {-2, -2}, {3, 3}, {2, 2}};
        for (int[] b : bad) due("stand " + b[0] + " " + b[1], x.stand(b[0], b[1]), UNKNOWN);
        due("none", x.told(3), NONE);
        due("none was", x.stand(-1, -1), NONE);
        due("none was", x.stand(2, 1), NONE);
        due("as it was", x.stand(0, 1), 21);
        due("as it was", x.stand(1, 0), 1);
        due("refused changes nothing", x.stand(1, 1), UNKNOWN);
        due("as it was", x.stand(-1, -1), 10);
        due("none", x.told(3), NONE);
    }

    private static void p8() {
        WorkedBack x = new WorkedBack();
        due("32", x.say(32), OUTSIDE);
        due("127", x.say(127), OUTSIDE);
        due("-1", x.say(-1), OUTSIDE);
        due("33", x.say(33), 1);
        due("126", x.say(126), 2);
        for (int i = 3; i <= 50; i++) due("more", x.say('p'), i);
        due("51st", x.say('p'), FULL);
        due("OUTSIDE comes ahead of FULL", x.say(0), OUTSIDE);
        due("told", x.told(1), 50);
    }

    private static void p9() {
        WorkedBack x = new WorkedBack();
        due("nothing", x.wipe(), 0);
        say(x, "pa<1");
        due("four", x.wipe(), 4);
        due("nothing any more", x.told(1), 0);
        rule(x, "pa<1");
        say(x, "qa");
        due("two", x.wipe(), 2);
        due("the RULE stays", x.told(2), 1);
    }

    private static void fault(String text, int want) {
        WorkedBack x = new WorkedBack();
        say(x, text);
        due("fault of " + text, x.fault(), want);
        due("signs of " + text + " stay", x.told(1), text.length());
        int boths = text.split("\\|").length;
        due("rule of " + text, x.rule(), want == NONE ? boths : NO);
    }

    private static void p10() {
        fault("", 0);
        String[] right = {"pa<1", "qc>99", "pb=0", "pa+qb=12", "pa<1&qa>2", "pa<1|qa>2|pc=3", "pa=00", "pa+pa+pa<09",
            "pa<1&pb<1|pc<1&qa<1"};
        for (String text : right) fault(text, NONE);
        String[] more = {"p", "pa", "pa+", "pa+q", "pa<", "pa<1&", "pa<10|", "pa<1|q", "pa<1|qb", "pa<1|qb="};
        for (String text : more) fault(text, text.length());
        fault("a", 0);
        fault("+", 0);
        fault("&pa<1", 0);
        fault("1<pa", 0);
        fault("Pa<1", 0);
        fault("pd<1", 1);
        fault("pp<1", 1);
        fault("pA<1", 1);
        fault("papb<1", 2);
        fault("pa&", 2);
        fault("pa1", 2);
        fault("pa-pb<1", 2);
        fault("pa+<1", 3);
        fault("pa++pb<1", 3);
        fault("pa<<1", 3);
        fault("pa<=1", 3);
        fault("pa<a", 3);
        fault("pa<1a", 4);
        fault("pa<1+pb<1", 4);
        fault("pa<1<2", 4);
        fault("pa<100", 5);
        fault("pa<12+", 5);
        fault("pa<1&&pb<1", 5);
        fault("pa<1||pb<1", 5);
        fault("pa<1|&pb<1", 5);
        fault("pa<1!", 4);
        String fifty = "pa+pa+pa+pa+pa+pa+pa+pa+pa+pa+pa+pa+pa+pa+pa+pa<64";
        fault(fifty, NONE);
        fault(fifty.substring(0, 47) + "+pa", 50);
    }

    private static int kept(String text) {
        WorkedBack x = new WorkedBack();
        due("rule " + text, x.rule(), NO);
        due("rule " + text, rule(x, text), text.split("\\|").length);
        return x.all(-1);
    }

    private static void p11() {
        due("pa<1", kept("pa<1"), 3125);
        due("pa<0", kept("pa<0"), 0);
        due("pa>3", kept("pa>3"), 3125);
        due("pa>4", kept("pa>4"), 0);
        due("qc=2", kept("qc=2"), 3125);
        due("qc=02", kept("qc=02"), 3125);
        due("qc<99", kept("qc<99"), 15625);
        due("sum", kept("pa+pb+pc+qa+qb+qc=24"), 1);
        due("sum", kept("pa+pb+pc+qa+qb+qc>22"), 7);
        due("twice", kept("pa+pa=4"), 3125);
        due("twice, odd", kept("pa+pa=3"), 0);
        due("both", kept("pa=1&qa=2"), 625);
        due("either", kept("pa=1|qa=2"), 5625);
        due("& binds ahead of |", kept("pa=1|qa=2&qb=3"), 3125 + 500);
        due("& binds ahead of |", kept("qa=2&qb=3|pa=1"), 3125 + 500);
        due("the most", kept("pa+pa+pa+pa+pa+pa+pa+pa+pa+pa+pa+pa+pa+pa+pa+pa=64"), 3125);
        due("the most in q", kept("qb+qb+qb+qb+qb+qb+qb+qb+qb+qb+qb+qb+qb+qb+qb+qb>63"), 3125);
        due("ten BOTHS", kept("pa=0|pa=1|pa=2|pa=3|pa=4|pb=0|pb=1|pb=2|pb=3|pb=4"), 15625);
        String long16 = "qa+qb+qb+qb+qb+qb+qb+qb+qb+qb+qb+qb+qb+qb+qb+qb";
        due("63", kept(long16 + "=63"), 625);
        due("above 62", kept(long16 + ">62"), 1250);
        due("below 63", kept(long16 + "<63"), 15625 - 1250);
        due("below 64", kept(long16 + "<64"), 15625 - 625);
        WorkedBack x = new WorkedBack();
        rule(x, long16 + "<64");
        rule(x, long16.replace("qa", "qb") + "<64");
        due("nothing of the RULE before", x.all(-1), 12500);
        rule(x, "pa=1|pa=2");
        due("signs are empty then", x.told(1), 0);
        say(x, "pa=");
        due("a FAULT", x.rule(), NO);
        due("the signs stay", x.told(1), 3);
        due("the old RULE stays", x.told(2), 2);
        due("and is kept", x.all(-1), 6250);
        x.say('0');
        due("the new one", x.rule(), 1);
        due("is in its place", x.all(-1), 3125);
    }

    private static void p12() {
        WorkedBack x = new WorkedBack();
        due("none", x.free(), 0);
        rule(x, "pa=0&pb=0|pa=1");
        say(x, "q");
        due("two", x.free(), 2);
        due("none any more", x.told(2), 0);
        due("all do", x.all(-1), 15625);
        due("signs stay", x.told(1), 1);
        due("none", x.free(), 0);
    }

    private static void p13() {
        WorkedBack x = strict();
        x.month(2, 0, 0, 0, 1, 0);
        rule(x, "qa=0");
        int[][] want = {{1, 1, 1}, {0, 1, 0}, {1, 0, 0}, {0, 0, 0}};
        int[] mixtures = {mix(2, 0, 0, 0, 1, 4), mix(2, 0, 0, 1, 0, 0), mix(1, 0, 0, 0, 0, 0), mix(2, 0, 1, 4, 0, 0)};
        for (int i = 0; i < 4; i++) {
            for (int how = 0; how < 3; how++) due("fits " + i + " " + how, x.fits(mixtures[i], how), want[i][how]);
        }
        due("mixture", x.fits(15625, 0), UNKNOWN);
        due("mixture", x.fits(-1, 9), UNKNOWN);
        due("how", x.fits(0, 3), OUTSIDE);
        due("how", x.fits(0, -1), OUTSIDE);
    }

    private static void p14() {
        WorkedBack x = new WorkedBack();
        int m = mix(1, 2, 3, 4, 0, 1);
        due("no month", x.needs(m, 0, 0), UNKNOWN);
        x.month(0, 0, 0, 0, 3, 5);
        int[] plain = {3 + 20, 6, 9 + 5};
        for (int t = 0; t < 3; t++) due("plain", x.needs(m, 0, t), plain[t]);
        x.stand(2, 0);
        x.change(0, 6, 7);
        x.change(0, 8, 7);
        for (int t = 0; t < 3; t++) due("the same PRICE is not lower", x.needs(m, 0, t), plain[t]);
        x.change(0, 8, 6);
        due("of the one", x.needs(m, 0, 2), 23 + 14);
        due("of the other", x.needs(m, 0, 0), 0);
        due("of the third", x.needs(m, 0, 1), 6);
        x.change(0, 8, 8);
        due("higher", x.needs(m, 0, 2), 14);
        x.stand(0, 2);
        due("the other way", x.needs(m, 0, 0), 37);
        x.month(0, 0, 0, 0, 1, 0);
        due("by MONTHS", x.needs(m, 1, 0), 1);
        due("the most", x.needs(15624, 0, 0), 4 * 8 * 2);
        due("mixture", x.needs(15625, 0, 0), UNKNOWN);
        due("mixture", x.needs(-1, 0, 0), UNKNOWN);
        due("month", x.needs(0, 2, 0), UNKNOWN);
        due("thing", x.needs(0, 0, 3), UNKNOWN);
        due("thing", x.needs(0, 0, -1), UNKNOWN);
    }

    private static void p15() {
        WorkedBack x = new WorkedBack();
        due("no months", x.judge(15624, 0), NONE);
        WorkedBack y = strict();
        y.month(5, 0, 0, 0, 1, 0);
        due("the first MONTH", y.judge(0, 0), 0);
        due("the first THING", y.judge(0, 1), 0);
        x.stock(1, HOLDS, 5);
        x.month(10, 3, 0, 0, 1, 0);
        x.month(10, 3, 0, 0, 1, 0);
        x.month(10, 3, 0, 0, 1, 0);
        due("b is too much in MONTH 1", x.judge(0, 0), 1);
        due("b", x.judge(0, 1), 1);
        due("c is missing in MONTH 0", x.judge(mix(0, 0, 1, 0, 0, 0), 0), 0);
        due("c", x.judge(mix(0, 0, 1, 0, 0, 0), 1), 2);
        due("b is missing", x.judge(mix(4, 4, 1, 0, 0, 0), 1), 1);
        due("of two the first THING", x.judge(mix(4, 4, 1, 0, 0, 0), 0), 0);
        due("1 stays each MONTH", x.judge(mix(1, 2, 0, 4, 4, 4), 0), NONE);
        due("NONE for the THING too", x.judge(mix(1, 2, 0, 4, 4, 4), 1), NONE);
        x.stock(0, HOLDS, 20);
        due("a later THING that fails earlier", x.judge(0, 1), 1);
        due("a fails in MONTH 2 alone", x.judge(mix(1, 3, 0, 0, 0, 0), 0), 2);
        due("a", x.judge(mix(1, 3, 0, 0, 0, 0), 1), 0);
        rule(x, "pa=4");
        due("the RULE is not asked", x.judge(mix(4, 3, 0, 0, 0, 0), 0), NONE);
        due("mixture", x.judge(15625, 5), UNKNOWN);
        due("mixture", x.judge(-1, 0), UNKNOWN);
        due("what", x.judge(0, 2), OUTSIDE);
        due("what", x.judge(0, -1), OUTSIDE);
    }

    private static void p16() {
        WorkedBack x = new WorkedBack();
        int m = mix(1, 0, 0, 0, 0, 0);
        due("no month", x.lies(m, 0, 0, 0), UNKNOWN);
        x.stock(0, MOST, 6);
        x.stock(0, LEAST, 4);
        x.stock(0, LOST, 2);
        x.month(3, 0, 0, 2, 1, 0);
        due("4 + 1 - 1 - 2", x.lies(m, 0, 0, 0), 2);
        due("6 + 5 - 1", x.lies(m, 0, 0, 1), 10);
        x.month(1, 0, 0, 5, 10, 0);
        due("never below 0, IN neither", x.lies(m, 0, 1, 0), 0);
        due("10 + 6 - 10", x.lies(m, 0, 1, 1), 6);
        x.stock(0, HOLDS, 5);
        due("HOLDS behind MONTH 0", x.lies(m, 0, 0, 1), 5);
        due("and so behind MONTH 1", x.lies(m, 0, 1, 1), 1);
        x.month(0, 0, 0, 0, 2, 0);
        due("it does not go on", x.lies(m, 0, 2, 0), NO);
        due("it does not go on", x.lies(m, 0, 2, 1), NO);
        x.tear();
        x.month(5, 0, 0, 0, 2, 0);
        due("from 1 at most", x.lies(m, 0, 2, 1), 4);
        due("till MONTH 1 it is as it was", x.lies(m, 0, 1, 0), 0);
        due("of b that nobody needs", x.lies(m, 1, 2, 1), 2 + 5);
        due("another THING may not go on", x.lies(mix(1, 0, 4, 0, 0, 0), 0, 0, 0), 2);
        due("that one", x.lies(mix(1, 0, 4, 0, 0, 0), 2, 0, 0), NO);
        due("mixture", x.lies(15625, 0, 0, 2), UNKNOWN);
        due("thing", x.lies(0, 3, 0, 0), UNKNOWN);
        due("thing", x.lies(0, -1, 0, 0), UNKNOWN);
        due("month", x.lies(0, 0, 3, 0), UNKNOWN);
        due("end", x.lies(0, 0, 0, 2), OUTSIDE);
        due("OUTSIDE comes ahead of NO", x.lies(m, 0, 0, -1), OUTSIDE);
    }

    private static void p17() {
        WorkedBack x = new WorkedBack();
        due("how many", x.all(-1), 15625);
        int[] some = {0, 1, 63, 64, 124, 125, 126, 188, 189, 250, 7777, 15624};
        for (int i : some) due("each", x.all(i), i);
        due("behind the last", x.all(15625), NONE);
        due("below", x.all(-2), NONE);
        due("extremes", x.all(Integer.MIN_VALUE), NONE);
        due("extremes", x.all(Integer.MAX_VALUE), NONE);
        rule(x, "pa=4&qc=4&pb=0&qb=0");
        due("how many", x.all(-1), 25);
        for (int i = 0; i < 25; i++) due("by numbers", x.all(i), mix(4, 0, i / 5, i % 5, 0, 4));
        due("behind", x.all(25), NONE);
        rule(x, "pa>9");
        due("how many", x.all(-1), 0);
        due("none", x.all(0), NONE);
    }

    private static void p18() {
        WorkedBack x = new WorkedBack();
        due("least", x.ends(1, 2, 0), 0);
        due("most", x.ends(1, 2, 1), 4);
        rule(x, "pa+qb=3&qb>0|pa=1&qb=3&pc>2");
        due("pa", x.ends(0, 0, 0), 0);
        due("pa", x.ends(0, 0, 1), 2);
        due("qb", x.ends(1, 1, 0), 1);
        due("qb", x.ends(1, 1, 1), 3);
        due("ware", x.ends(2, 0, 5), UNKNOWN);
        due("ware", x.ends(-1, 0, 0), UNKNOWN);
        due("thing", x.ends(0, 3, 0), UNKNOWN);
        due("end", x.ends(0, 0, 2), OUTSIDE);
        due("end", x.ends(0, 0, -1), OUTSIDE);
        rule(x, "pa=9");
        due("none FITS", x.ends(0, 0, 0), NO);
        due("OUTSIDE comes ahead of NO", x.ends(0, 0, 2), OUTSIDE);
    }

    private static void p19() {
        WorkedBack x = new WorkedBack();
        due("must", x.must(0), 0);
        due("never", x.must(1), 0);
        rule(x, "pa>0&pb=0&qc=4&qa<1|pa=2&pb=0&qa=0&qc=1&pc=0");
        due("must", x.must(0), 1 + 32);
        due("never", x.must(1), 2 + 8);
        due("what", x.must(2), OUTSIDE);
        due("what", x.must(-1), OUTSIDE);
        rule(x, "pa=9");
        due("none FITS", x.must(0), NO);
        due("none FITS", x.must(1), NO);
        due("what", x.must(2), OUTSIDE);
    }

    private static void p20() {
        WorkedBack x = new WorkedBack();
        due("nothing at all", x.plain(0), 0);
        due("no THINGS", x.plain(1), 0);
        rule(x, "pa+qb>5");
        due("both are in", x.plain(0), mix(2, 0, 0, 0, 4, 0));
        due("two", x.plain(1), 2);
        rule(x, "pa+pb=4&qc>0");
        due("of several the first", x.plain(0), mix(0, 4, 0, 0, 0, 1));
        due("two", x.plain(1), 2);
        rule(x, "pa=1&pb=1&pc=1|pa=2&pb=0&pc=0&qa=4&qb=4|qa+pa=8");
        due("a later one with fewer", x.plain(0), mix(4, 0, 0, 4, 0, 0));
        due("two", x.plain(1), 2);
        rule(x, "pa>0&pb>0&pc>0&qa>0&qb>0&qc>0");
        due("all are in", x.plain(0), mix(1, 1, 1, 1, 1, 1));
        due("six", x.plain(1), 6);
        due("what", x.plain(2), OUTSIDE);
        due("what", x.plain(-1), OUTSIDE);
        rule(x, "pa=9");
        due("none FITS", x.plain(0), NO);
        due("none FITS", x.plain(1), NO);
    }

    private static void p21() {
        WorkedBack x = strict();
        due("no months", x.near(0), 0);
        due("the first", x.near(1), 0);
        x.month(99, 0, 0, 0, 0, 0);
        due("99 less", x.near(0), 99);
        due("any", x.near(1), 0);
        x.change(0, 3, 5);
        due("5 are given", x.near(0), 94);
        x.stock(0, LOST, 5);
        due("5 may be lost", x.near(0), 89);
        x.change(0, 4, 20);
        due("80 can be NEEDED", x.near(0), 9);
        due("the first by 9", x.near(1), mix(4, 0, 0, 0, 0, 0));
        x.change(0, 5, 1);
        due("84 can", x.near(0), 5);
        due("the first by 5", x.near(1), mix(4, 0, 0, 4, 0, 0));
        x.change(0, 1, 7);
        x.change(0, 4, 10);
        x.change(0, 5, 10);
        due("80 of a; 7 of b may be 10 or 0", x.near(0), 9);
        due("what", x.near(2), OUTSIDE);
        due("what", x.near(-1), OUTSIDE);
        rule(x, "pb+qb=1");
        due("the RULE tells, too", x.near(1), mix(4, 0, 0, 4, 1, 0));
        rule(x, "pa=9");
        due("none does", x.near(0), NO);
        due("none does", x.near(1), NO);
        WorkedBack y = strict();
        y.stock(0, MOST, 99);
        y.stock(0, LEAST, 1);
        y.month(99, 0, 0, 0, 0, 0);
        due("1 is there, 99 less do not do", y.near(0), NO);
        y.change(0, 4, 1);
        due("now", y.near(0), 96);
        due("the first", y.near(1), mix(4, 0, 0, 0, 0, 0));
        WorkedBack z = strict();
        z.month(3, 0, 0, 1, 1, 0);
        z.month(6, 0, 0, 0, 1, 0);
        due("all GIVES are more", z.near(0), 2);
        due("3 by 4 and 4 by 6", z.near(1), mix(4, 0, 0, 0, 0, 0));
    }

    private static void p22() {
        WorkedBack x = strict();
        due("no months", x.doubt(0), 0);
        x.month(1, 0, 0, 0, 1, 0);
        x.month(2, 0, 0, 0, 1, 0);
        x.month(1, 0, 0, 0, 1, 0);
        due("MONTH 1", x.doubt(0), 2);
        due("by", x.doubt(1), mix(1, 0, 0, 0, 0, 0));
        x.month(2, 0, 0, 0, 1, 0);
        due("of several the first as bits", x.doubt(0), 5);
        due("by", x.doubt(1), mix(2, 0, 0, 0, 0, 0));
        rule(x, "pa<2");
        due("now the others", x.doubt(0), 10);
        due("by", x.doubt(1), mix(1, 0, 0, 0, 0, 0));
        x.month(3, 0, 0, 0, 1, 0);
        due("three would have to be", x.doubt(0), NO);
        due("three would have to be", x.doubt(1), NO);
        x.free();
        x.tear();
        x.change(3, 0, 1);
        x.change(1, 1, 1);
        due("all THINGS of a MONTH at once", x.doubt(0), 2);
        x.change(1, 3, 1);
        due("GIVES do as well", x.doubt(0), 0);
        due("what", x.doubt(2), OUTSIDE);
        due("what", x.doubt(-1), OUTSIDE);
        WorkedBack y = strict();
        y.stock(0, MOST, 50);
        y.stock(0, LEAST, 50);
        y.month(0, 0, 0, 0, 0, 0);
        due("none less than 0", y.doubt(0), NO);
        y.stock(0, LEAST, 0);
        y.stock(0, MOST, 0);
        y.month(1, 0, 0, 0, 0, 0);
        y.month(0, 0, 0, 0, 0, 0);
        due("MONTH 1", y.doubt(0), 2);
        due("MIXTURE 0", y.doubt(1), 0);
        for (int i = 3; i < 8; i++) y.month(i == 7 ? 1 : 0, 0, 0, 0, 0, 0);
        due("the last of eight, too", y.doubt(0), 2 + 128);
        WorkedBack z = strict();
        z.month(0, 0, 0, 0, 20, 20);
        rule(z, "pa+qa=8");
        due("160, more than a book can say", z.doubt(0), 1);
        due("by", z.doubt(1), mix(4, 0, 0, 4, 0, 0));
        z.month(1, 0, 0, 0, 20, 20);
        due("both MONTHS", z.doubt(0), 3);
    }

    private static void p23() {
        WorkedBack x = strict();
        due("no months: some FITS", x.changed(0), STATE);
        x.month(2, 1, 0, 0, 1, 0);
        due("some FITS", x.changed(3), STATE);
        x.month(2, 1, 0, 0, 1, 0);
        x.month(2, 3, 0, 0, 1, 0);
        int[] want = {2, 1, mix(2, 1, 0, 0, 0, 0), mix(2, 3, 0, 0, 0, 0)};
        for (int i = 0; i < 4; i++) due("b was changed " + i, x.changed(i), want[i]);
        rule(x, "pb<3|qb=4");
        want[3] = mix(2, 3, 0, 0, 4, 0);
        for (int i = 0; i < 4; i++) due("a THING in both WARES " + i, x.changed(i), want[i]);
        rule(x, "pb<3|qa=4");
        want[2] = mix(2, 1, 0, 4, 0, 0);
        want[3] = mix(2, 3, 0, 4, 0, 0);
        for (int i = 0; i < 4; i++) due("both keep the RULE " + i, x.changed(i), want[i]);
        rule(x, "pb=1");
        due("the second does not", x.changed(0), NO);
        x.free();
        x.change(2, 0, 3);
        due("two THINGS", x.changed(0), NO);
        x.change(2, 1, 1);
        want = new int[] {2, 0, mix(2, 1, 0, 0, 0, 0), mix(3, 1, 0, 0, 0, 0)};
        for (int i = 0; i < 4; i++) due("a was changed " + i, x.changed(i), want[i]);
        x.change(1, 0, 4);
        due("twice", x.changed(0), NO);
        due("what", x.changed(4), OUTSIDE);
        due("what", x.changed(-1), OUTSIDE);
        WorkedBack y = strict();
        y.month(5, 0, 0, 0, 1, 0);
        due("no MONTH 1", y.changed(0), NO);
        y.tear();
        y.month(0, 0, 0, 0, 1, 0);
        y.month(1, 0, 0, 0, 1, 0);
        due("MIXTURE 0 till then", y.changed(2), 0);
        due("from then", y.changed(3), mix(1, 0, 0, 0, 0, 0));
        y.tear();
        y.tear();
        y.month(4, 0, 0, 0, 2, 0);
        y.month(6, 0, 0, 0, 2, 1);
        y.month(2, 0, 0, 0, 1, 1);
        due("2 of a in p, 2 in q? then 0", y.changed(0), 2);
        due("a", y.changed(1), 0);
        due("till then", y.changed(2), mix(2, 0, 0, 2, 0, 0));
        due("from then", y.changed(3), mix(0, 0, 0, 2, 0, 0));
        WorkedBack z = strict();
        z.month(0, 0, 3, 0, 1, 0);
        z.month(0, 0, 4, 0, 1, 0);
        z.change(0, 8, 1);
        z.change(1, 8, 1);
        z.change(0, 7, 2);
        z.change(1, 7, 2);
        z.stand(2, 1);
        want = new int[] {1, 1, mix(0, 0, 3, 0, 0, 0), mix(0, 1, 3, 0, 0, 0)};
        for (int i = 0; i < 4; i++) due("c stands in for b: b was changed " + i, z.changed(i), want[i]);
        rule(z, "pb=2");
        want = new int[] {1, 2, mix(0, 2, 1, 0, 0, 0), mix(0, 2, 2, 0, 0, 0)};
        for (int i = 0; i < 4; i++) due("now c " + i, z.changed(i), want[i]);
        p23Standing();
    }

    /** a stands in for b: what is told of the two comes from one STOCK. */
    private static WorkedBack standing() {
        WorkedBack x = strict();
        x.month(3, 0, 0, 0, 1, 0);
        x.change(0, 6, 1);
        x.change(0, 7, 2);
        x.stand(0, 1);
        return x;
    }

    private static void p23Standing() {
        WorkedBack x = standing();
        x.month(4, 0, 0, 0, 1, 0);
        x.change(1, 6, 1);
        x.change(1, 7, 2);
        int[] want = {1, 0, mix(0, 3, 0, 0, 0, 0), mix(1, 3, 0, 0, 0, 0)};
        for (int i = 0; i < 4; i++) due("a was changed " + i, x.changed(i), want[i]);
        rule(x, "pa=2");
        want = new int[] {1, 1, mix(2, 1, 0, 0, 0, 0), mix(2, 2, 0, 0, 0, 0)};
        for (int i = 0; i < 4; i++) due("b was changed " + i, x.changed(i), want[i]);
        x.free();
        x.change(1, 6, 2);
        want = new int[] {1, 0, mix(3, 0, 0, 0, 0, 0), mix(4, 0, 0, 0, 0, 0)};
        for (int i = 0; i < 4; i++) due("it stands in in MONTH 0 alone " + i, x.changed(i), want[i]);
        x.change(1, 2, 1);
        due("c too", x.changed(0), NO);
        x.change(1, 0, 2);
        x.change(1, 1, 1);
        want = new int[] {1, 2, mix(2, 1, 0, 0, 0, 0), mix(2, 1, 1, 0, 0, 0)};
        for (int i = 0; i < 4; i++) due("c was changed " + i, x.changed(i), want[i]);
        x.change(1, 2, 0);
        x.change(1, 0, 1);
        want = new int[] {1, 0, mix(2, 1, 0, 0, 0, 0), mix(1, 1, 0, 0, 0, 0)};
        for (int i = 0; i < 4; i++) due("a again " + i, x.changed(i), want[i]);
        rule(x, "pa=1");
        want = new int[] {1, 1, mix(1, 2, 0, 0, 0, 0), mix(1, 1, 0, 0, 0, 0)};
        for (int i = 0; i < 4; i++) due("b again " + i, x.changed(i), want[i]);
    }

    private static void p24() {
        WorkedBack x = new WorkedBack();
        int m = mix(1, 2, 3, 4, 0, 1);
        due("no month", x.cost(m, 0, 0), UNKNOWN);
        x.month(0, 0, 0, 0, 1, 1);
        due("for nothing", x.cost(m, 0, 0), 0);
        x.change(0, 6, 10);
        x.change(0, 7, 20);
        x.change(0, 8, 99);
        x.stand(0, 1);
        due("p, as if nothing stood in", x.cost(m, 0, 0), 10 + 40 + 297);
        due("q", x.cost(m, 1, 0), 40 + 99);
        due("mixture", x.cost(15625, 0, 0), UNKNOWN);
        due("mixture", x.cost(-1, 0, 0), UNKNOWN);
        due("ware", x.cost(0, 2, 0), UNKNOWN);
        due("ware", x.cost(0, -1, 0), UNKNOWN);
        due("month", x.cost(0, 0, 1), UNKNOWN);
        due("month", x.cost(0, 0, -1), UNKNOWN);
    }

    private static void p25() {
        WorkedBack x = new WorkedBack();
        due("no month", x.costs(0, 0, 0), UNKNOWN);
        x.month(0, 0, 0, 0, 0, 0);
        x.month(0, 0, 0, 0, 0, 0);
        x.change(1, 6, 10);
        x.change(1, 7, 3);
        x.change(1, 8, 1);
        due("nothing is in it", x.costs(0, 1, 0), 0);
        due("all is in it", x.costs(1, 1, 1), 56);
        rule(x, "pa=2&pb=2&pc=4&qa=2&qb=2&qc=3");
        due("one p", x.costs(0, 1, 0), 30);
        due("one p", x.costs(0, 1, 1), 30);
        due("one q", x.costs(1, 1, 0), 29);
        rule(x, "pa+pb=3&pc=1&qc>2&qb=1&qa=0");
        due("cheap p", x.costs(0, 1, 0), 10);
        due("dear p", x.costs(0, 1, 1), 31);
        due("cheap q", x.costs(1, 1, 0), 6);
        due("dear q", x.costs(1, 1, 1), 7);
        due("MONTH 0", x.costs(0, 0, 1), 0);
        due("ware", x.costs(2, 0, 3), UNKNOWN);
        due("month", x.costs(0, 2, 0), UNKNOWN);
        due("end", x.costs(0, 0, 2), OUTSIDE);
        due("end", x.costs(0, 0, -1), OUTSIDE);
        rule(x, "pa=9");
        due("none FITS", x.costs(0, 0, 0), NO);
        due("OUTSIDE comes ahead of NO", x.costs(0, 0, 2), OUTSIDE);
    }

    private static void p26() {
        WorkedBack x = new WorkedBack();
        due("least", x.buy(0, 20, 20, 0), 0);
        due("most", x.buy(0, 20, 20, 1), 160);
        rule(x, "pa+qa=4&pa<3");
        due("the two go together", x.buy(0, 1, 1, 0), 4);
        due("the two go together", x.buy(0, 1, 1, 1), 4);
        due("least", x.buy(0, 10, 1, 0), 4);
        due("most", x.buy(0, 10, 1, 1), 22);
        due("nothing", x.buy(0, 0, 0, 1), 0);
        due("b is free", x.buy(1, 3, 2, 1), 20);
        x.stand(0, 1);
        due("as if nothing stood in", x.buy(1, 3, 2, 1), 20);
        due("thing", x.buy(3, 21, 0, 0), UNKNOWN);
        due("thing", x.buy(-1, 0, 0, 0), UNKNOWN);
        int[][] bad = {{21, 0, 0}, {-1, 0, 0}, {0, 21, 0}, {0, -1, 0}, {0, 0, 2}, {0, 0, -1}};
        for (int[] b : bad) due("outside", x.buy(0, b[0], b[1], b[2]), OUTSIDE);
        rule(x, "pa=9");
        due("none FITS", x.buy(0, 1, 1, 0), NO);
        due("OUTSIDE comes ahead of NO", x.buy(0, 21, 1, 0), OUTSIDE);
    }

    private static void settle(WorkedBack x, String what, int month, int thing, int many) {
        due(what + ": MONTH", x.settle(0), month);
        due(what + ": THING", x.settle(1), thing);
        due(what + ": how many", x.settle(2), many);
    }

    private static void p27() {
        WorkedBack x = strict();
        due("no months", x.settle(0), STATE);
        due("OUTSIDE comes ahead of STATE", x.settle(3), OUTSIDE);
        x.month(4, 2, 0, 1, 1, 0);
        due("3 or 4, 1 to 3, 0 or 1", x.all(-1), 12 * 125);
        settle(x, "b settles most", 0, 1, 4 * 125);
        x.change(0, 1, 4);
        settle(x, "of several the first", 0, 0, 4 * 125);
        rule(x, "pc=0");
        settle(x, "c is settled", 0, 0, 2 * 125);
        x.free();
        x.change(0, 3, 0);
        due("pb is 4", x.all(-1), 125);
        x.month(0, 0, 0, 2, 0, 1);
        settle(x, "MONTH 1: 0 to 2 of each in q", 1, 0, 9);
        x.change(1, 3, 5);
        settle(x, "0 to 4 of each", 1, 0, 25);
        x.change(1, 5, 3);
        settle(x, "0 or 1 of each", 1, 0, 4);
        x.change(1, 0, 9);
        due("a: 4 to 14", x.ends(1, 0, 0), 2);
        settle(x, "a: 2 to 4", 1, 0, 4);
        x.change(1, 1, 99);
        due("none FITS", x.settle(0), NO);
        due("what", x.settle(3), OUTSIDE);
        due("what", x.settle(-1), OUTSIDE);
        WorkedBack y = strict();
        y.stock(0, LOST, 1);
        y.month(2, 0, 0, 1, 1, 0);
        y.change(0, 3, 0);
        due("1 or 2", y.all(-1), 250);
        settle(y, "an exact IN settles nothing", 0, 0, 250);
        y.change(0, 3, 1);
        due("0 to 3 of a, 0 or 1 of b and c", y.all(-1), 16 * 125);
        settle(y, "b: one of two, a: two of four", 0, 0, 8 * 125);
        WorkedBack z = standing();
        z.change(0, 3, 1);
        due("2 to 4 of a and b, 0 or 1 of c", z.all(-1), (3 + 4 + 5) * 2 * 125);
        settle(z, "a for both", 0, 0, 5 * 2 * 125);
        rule(z, "pa=2");
        due("0 to 2 of b", z.all(-1), 3 * 2 * 125);
        settle(z, "a for both", 0, 0, 2 * 125);
        WorkedBack l = strict();
        l.stock(0, HOLDS, 1);
        l.stock(0, LOST, 1);
        l.month(3, 0, 0, 0, 1, 0);
        l.month(1, 0, 0, 0, 0, 0);
        due("1 to 3 of a", l.all(-1), 3 * 125);
        settle(l, "nothing to settle", 0, 0, 3 * 125);
    }

    private static void hide(WorkedBack x, int purse, int month, int thing, int more, int many) {
        due("hide " + purse + ": MONTH", x.hide(purse, 0), month);
        due("hide " + purse + ": THING", x.hide(purse, 1), thing);
        due("hide " + purse + ": more", x.hide(purse, 2), more);
        due("hide " + purse + ": MIXTURES", x.hide(purse, 3), many);
    }

    private static void p28() {
        WorkedBack x = strict();
        due("no months", x.hide(0, 0), STATE);
        due("purse", x.hide(1000, 0), OUTSIDE);
        due("purse", x.hide(-1, 0), OUTSIDE);
        due("what", x.hide(0, 4), OUTSIDE);
        due("what", x.hide(0, -1), OUTSIDE);
        x.month(4, 0, 0, 0, 1, 0);
        hide(x, 0, 0, 1, 1, 125);
        x.change(0, 6, 1);
        x.change(0, 7, 3);
        x.change(0, 8, 2);
        hide(x, 999, 0, 2, 1, 125);
        hide(x, 2, 0, 2, 1, 125);
        hide(x, 1, 0, 0, 1, 0);
        due("too little for any", x.hide(0, 0), NO);
        due("what", x.hide(0, 4), OUTSIDE);
        x.change(0, 3, 1);
        due("3 or 4 of a, 0 or 1 of b, of c", x.all(-1), 8 * 125);
        hide(x, 999, 0, 2, 1, 2 * 2 * 3 * 125);
        x.month(4, 0, 0, 1, 1, 0);
        x.change(1, 6, 99);
        x.change(1, 7, 1);
        x.change(1, 8, 99);
        due("the same", x.all(-1), 8 * 125);
        hide(x, 999, 1, 1, 1, 8 * 125);
        x.change(1, 7, 2);
        hide(x, 999, 0, 2, 1, 8 * 125);
        x.change(0, 0, 0);
        due("a: 0 or 1, then 3 or 4", x.all(-1), 0);
        hide(x, 999, 0, 0, 3, 8 * 125);
        hide(x, 2, 0, 0, 2, 4 * 125);
        WorkedBack z = standing();
        z.change(0, 0, 0);
        hide(z, 4, 0, 0, 4, 5 * 125);
        hide(z, 3, 0, 0, 3, 4 * 125);
        hide(z, 0, 0, 2, 1, 125);
        WorkedBack y = new WorkedBack();
        y.stock(0, HOLDS, 28);
        rule(y, "pa=4&qa=0");
        y.month(99, 0, 0, 0, 20, 0);
        due("19 stay", y.all(-1) > 0, true);
        y.change(0, 4, 18);
        due("27 stay", y.all(-1) > 0, true);
        y.stock(0, MOST, 0);
        y.stock(0, HOLDS, 36);
        rule(y, "pa=4&qa=0&pb=0&pc=0&qb=0&qc=0");
        hide(y, 0, 0, 0, 1, 1);
        rule(y, "pa=4&qa=0&pb=0&pc=0&qb=0&qc=0|pa=0");
        y.stock(0, HOLDS, 107);
        due("both go", y.all(-1), 1 + 125);
        hide(y, 0, 0, 0, 1, 1 + 125);
        y.stock(0, HOLDS, 30);
        hide(y, 0, 0, 0, 1, 1);
    }

    private static void due(String what, boolean got, boolean want) {
        due(what, got ? 1 : 0, want ? 1 : 0);
    }

    private static void p29() {
        WorkedBack x = new WorkedBack();
        due("image", x.image(2), OUTSIDE);
        due("image", x.image(-1), OUTSIDE);
        due("image", x.image(0), 1);
        x.month(1, 2, 3, 4, 5, 6);
        due("again", x.image(0), 1);
        x.tear();
        x.restore(0);
        due("the later one", x.about(0, 5), 6);
        due("the other one was not kept", x.restore(1), STATE);
    }

    private static void p30() {
        WorkedBack x = new WorkedBack();
        due("restore", x.restore(2), OUTSIDE);
        due("restore", x.restore(-1), OUTSIDE);
        due("restore", x.restore(0), STATE);
        due("restore", x.restore(1), STATE);
        x.month(1, 2, 3, 4, 5, 6);
        x.change(0, 8, 42);
        x.stock(1, MOST, 9);
        x.stock(1, LEAST, 7);
        x.stock(1, LOST, 3);
        x.stand(2, 0);
        rule(x, "pa=1|pb=2");
        say(x, "qq");
        int all = x.all(-1);
        x.image(1);
        x.change(0, 8, 1);
        x.change(0, 1, 90);
        x.stock(1, LEAST, 0);
        x.stock(1, MOST, 0);
        x.stock(1, HOLDS, 1);
        x.stand(-1, -1);
        x.free();
        x.month(0, 0, 0, 0, 0, 0);
        x.say('q');
        for (int twice = 0; twice < 2; twice++) {
            due("restore", x.restore(1), 1);
            due("MONTHS", x.told(0), 1);
            due("an IN", x.about(0, 1), 2);
            due("a PRICE", x.about(0, 8), 42);
            int[] stock = {7, 9, 199, 3};
            for (int i = 0; i < 4; i++) due("STOCK", x.told(14 + i), stock[i]);
            due("STAND", x.told(3), 20);
            due("BOTHS", x.told(2), 2);
            due("all", x.all(-1), all);
            due("the RULE", x.fits(0, 0), 0);
            due("signs are not in it", x.told(1), 3);
            x.change(0, 1, 50);
            x.stock(1, HOLDS, 5);
            x.free();
        }
        x.tear();
        due("the other one was not kept", x.restore(0), STATE);
        due("refused changes nothing", x.told(0), 0);
    }

    private static void p31() {
        WorkedBack x = new WorkedBack();
        int[] bad = {-1, 4, 9, 22, Integer.MIN_VALUE, Integer.MAX_VALUE};
        for (int what : bad) due("told " + what, x.told(what), OUTSIDE);
        for (int t = 0; t < 3; t++) {
            x.stock(t, MOST, 10 + t);
            x.stock(t, LEAST, 5 + t);
            x.stock(t, HOLDS, 100 + t);
            x.stock(t, LOST, 2 + t);
        }
        int[] base = {5, 10, 100, 2};
        for (int i = 0; i < 12; i++) due("told " + (10 + i), x.told(10 + i), base[i % 4] + i / 4);
        x.month(0, 0, 0, 0, 0, 0);
        due("MONTHS", x.told(0), 1);
        say(x, "pa=1|pa=2|qa=0");
        due("signs", x.told(1), 14);
        due("BOTHS", x.told(2), 0);
        x.rule();
        due("signs", x.told(1), 0);
        due("BOTHS", x.told(2), 3);
        x.stand(1, 2);
        due("STAND", x.told(3), 12);
    }

    public static void main(String[] args) {
        Runnable[] tests = {PromiseTest::p1, PromiseTest::p2, PromiseTest::p3, PromiseTest::p4, PromiseTest::p5,
            PromiseTest::p6, PromiseTest::p7, PromiseTest::p8, PromiseTest::p9, PromiseTest::p10, PromiseTest::p11,
            PromiseTest::p12, PromiseTest::p13, PromiseTest::p14, PromiseTest::p15, PromiseTest::p16,
            PromiseTest::p17, PromiseTest::p18, PromiseTest::p19, PromiseTest::p20, PromiseTest::p21,
            PromiseTest::p22, PromiseTest::p23, PromiseTest::p24, PromiseTest::p25, PromiseTest::p26,
            PromiseTest::p27, PromiseTest::p28, PromiseTest::p29, PromiseTest::p30, PromiseTest::p31};
        for (int i = 0; i < tests.length; i++) {
            promise = i + 1;
            tests[i].run();
        }
        System.out.println(wrong == 0 ? "all promises are as due" : wrong + " answers are not as due");
        if (wrong != 0) System.exit(1);
    }
}
