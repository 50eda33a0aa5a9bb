/** Edges of rules: section 2 of the Terms, promises 8 to 13. */
public final class EdgeRuleTest {
    /** Sixteen TERMS and a TEST of two digits: fifty signs. */
    private static final String SIXTEEN = "pa+pa+pa+pa+pa+pa+pa+pa+pa+pa+pa+pa+pa+pa+pa+pa";

    private static WorkedBack said(String text) {
        WorkedBack x = new WorkedBack();
        Edges.say(x, text);
        return x;
    }

    private static void signs() {
        Edges.edge("8: signs are codes 33 to 126", () -> {
            WorkedBack x = new WorkedBack();
            Edges.due("32", x.say(32), Edges.OUTSIDE);
            Edges.due("127", x.say(127), Edges.OUTSIDE);
            Edges.due("refused: none", x.told(1), 0);
            Edges.due("33", x.say(33), 1);
            Edges.due("126", x.say(126), 2);
            Edges.due("0", x.say(0), Edges.OUTSIDE);
            Edges.due("-1", x.say(-1), Edges.OUTSIDE);
            Edges.due("112 and 256", x.say('p' + 256), Edges.OUTSIDE);
            Edges.due("112 and 65536", x.say('p' + 65536), Edges.OUTSIDE);
            Edges.due("told", x.told(1), 2);
        });
        Edges.edge("8: each code of 33 to 126 is a sign", () -> {
            WorkedBack x = new WorkedBack();
            for (int sign = 33; sign <= 126; sign++) {
                if (sign == 80) x.wipe();
                Edges.due("say " + sign, x.say(sign), sign < 80 ? sign - 32 : sign - 79);
            }
        });
        Edges.edge("8: up to 50 signs: how many; FULL", () -> {
            WorkedBack x = new WorkedBack();
            for (int i = 1; i <= 50; i++) Edges.due("how many", x.say('p'), i);
            Edges.due("the 51st", x.say('p'), Edges.FULL);
            Edges.due("told", x.told(1), 50);
        });
        Edges.edge("8: OUTSIDE comes ahead of FULL", () -> {
            WorkedBack x = said(SIXTEEN + "<10");
            Edges.due("full", x.say('0'), Edges.FULL);
            Edges.due("32", x.say(32), Edges.OUTSIDE);
            Edges.due("127", x.say(127), Edges.OUTSIDE);
        });
        Edges.edge("8: a sign that is refused with FULL is not in the text", () -> {
            WorkedBack x = said(SIXTEEN + "<64");
            Edges.due("signs", x.told(1), 50);
            Edges.due("the 51st", x.say('!'), Edges.FULL);
            Edges.due("no FAULT", x.fault(), Edges.NONE);
        });
        Edges.edge("9: signs go: how many there were: none, some, 50", () -> {
            WorkedBack x = new WorkedBack();
            Edges.due("none", x.wipe(), 0);
            x.say('!');
            Edges.due("one", x.wipe(), 1);
            Edges.say(x, SIXTEEN + "=00");
            Edges.due("50", x.wipe(), 50);
            Edges.due("none any more", x.told(1), 0);
            Edges.due("from the start again", x.say('p'), 1);
            Edges.due("nothing of the old ones", x.fault(), 1);
        });
        Edges.edge("9: the RULE stays", () -> {
            WorkedBack x = new WorkedBack();
            Edges.rule(x, "pa=1|pa=2");
            Edges.say(x, "qa=3");
            Edges.due("four", x.wipe(), 4);
            Edges.due("BOTHS", x.told(2), 2);
            Edges.due("all", x.all(-1), 6250);
        });
    }

    /** Which signs can stand behind a text that is right so far. */
    private static void mayFollow(String text, String signs) {
        Edges.edge("10: THE FAULT: the first sign that can not stand there, behind '" + text + "'", () -> {
            for (int sign = 33; sign <= 126; sign++) {
                WorkedBack x = said(text);
                x.say(sign);
                boolean stands = x.fault() != text.length();
                Edges.due("sign " + (char) sign, stands ? 1 : 0, signs.indexOf(sign) >= 0 ? 1 : 0);
            }
        });
    }

    private static void faults() {
        String digits = "0123456789";
        mayFollow("", "pq");
        mayFollow("p", "abc");
        mayFollow("q", "abc");
        mayFollow("pa", "+<>=");
        mayFollow("qc", "+<>=");
        mayFollow("pa+", "pq");
        mayFollow("pa+q", "abc");
        mayFollow("pa+qb", "+<>=");
        mayFollow("pa<", digits);
        mayFollow("pa>", digits);
        mayFollow("pa=", digits);
        mayFollow("pa<1", digits + "&|");
        mayFollow("pa<0", digits + "&|");
        mayFollow("pa<12", "&|");
        mayFollow("pa<00", "&|");
        mayFollow("pa<1&", "pq");
        mayFollow("pa<12|", "pq");
        mayFollow("pa<1&q", "abc");
        mayFollow("pa<1|qb+pc", "+<>=");
        mayFollow("pa<1|qb+pc>9", digits + "&|");
        mayFollow("pa<1|qb+pc>99&qa=1", digits + "&|");
        Edges.edge("10: the number of signs, if more must come: none yet", () ->
                Edges.due("fault", new WorkedBack().fault(), 0));
        String[] unfinished = {"p", "q", "pa", "pa+", "pa+q", "pa+qb", "pa<", "pa<1&", "pa<12|", "pa<1|q", "pa=1&qb",
            "pa=1&qb>"};
        for (String text : unfinished) {
            Edges.edge("10: the number of signs, if more must come: " + text, () ->
                    Edges.due("fault", said(text).fault(), text.length()));
        }
        Edges.edge("10: 50 signs, and more must come", () -> {
            Edges.due("a number", said(SIXTEEN + "+pa").fault(), 50);
            Edges.due("a BOTH", said(SIXTEEN + "<1|").fault(), 50);
            Edges.due("a TEST", said(SIXTEEN + "<1&").fault(), 50);
        });
        Edges.edge("10: the 50th sign can not stand there", () ->
                Edges.due("fault", said(SIXTEEN + "<1p").fault(), 49));
        String[] right = {"pa<1", "qc=99", "pa+pb+pc>0", "pa<1&pb<1", "pa<1|pb<1", "pa<1&pb<1|pc<1&qa<1|qb=0",
            SIXTEEN + "<64", "pa=00", "pa+pa=1"};
        for (String text : right) {
            Edges.edge("10: NONE: " + text, () -> Edges.due("fault", said(text).fault(), Edges.NONE));
        }
        Edges.edge("10: of several the first", () -> {
            Edges.due("at once", said("!!").fault(), 0);
            Edges.due("later ones do not tell", said("pa<1!&&||").fault(), 4);
            Edges.due("nor that more must come", said("px").fault(), 1);
        });
        Edges.edge("10: asking changes nothing", () -> {
            WorkedBack x = said("pa<1");
            x.fault();
            Edges.due("again", x.fault(), Edges.NONE);
            Edges.due("signs", x.told(1), 4);
            Edges.due("it may go on", x.say('0'), 5);
            Edges.due("it goes on", x.fault(), Edges.NONE);
        });
    }

    private static int kept(String text) {
        WorkedBack x = said(text);
        Edges.due("rule " + text, x.rule(), text.split("\\|").length);
        return x.all(-1);
    }

    private static void relation(char sign, int number, int... amounts) {
        String text = "qb" + sign + number;
        Edges.edge("2: a TEST is so at its edge: " + text, () -> {
            WorkedBack x = new WorkedBack();
            Edges.rule(x, text);
            for (int amount = 0; amount < 5; amount++) {
                boolean so = false;
                for (int one : amounts) so |= one == amount;
                Edges.due(amount + "", x.fits(Edges.mix(4, 4, 4, 4, amount, 4), 0), so ? 1 : 0);
                Edges.due(amount + "", x.fits(Edges.mix(0, 0, 0, 0, amount, 0), 0), so ? 1 : 0);
            }
        });
    }

    private static void tests() {
        relation('<', 0);
        relation('<', 1, 0);
        relation('<', 4, 0, 1, 2, 3);
        relation('<', 5, 0, 1, 2, 3, 4);
        relation('<', 99, 0, 1, 2, 3, 4);
        relation('>', 0, 1, 2, 3, 4);
        relation('>', 3, 4);
        relation('>', 4);
        relation('>', 99);
        relation('=', 0, 0);
        relation('=', 2, 2);
        relation('=', 4, 4);
        relation('=', 5);
        relation('=', 99);
        String wares = "pq";
        String things = "abc";
        for (int i = 0; i < 6; i++) {
            int place = i;
            String term = "" + wares.charAt(i / 3) + things.charAt(i % 3);
            Edges.edge("2: a TERM: how much of that THING is in that WARE: " + term, () -> {
                WorkedBack x = new WorkedBack();
                Edges.rule(x, term + "=3");
                int power = new int[] {3125, 625, 125, 25, 5, 1}[place];
                Edges.due("3", x.fits(3 * power, 0), 1);
                Edges.due("2", x.fits(2 * power, 0), 0);
                Edges.due("all else 4", x.fits(15624 - power, 0), 1);
                Edges.due("all 4", x.fits(15624, 0), 0);
            });
        }
        Edges.edge("2: 1 or 2 digits: 0 ahead tells nothing", () -> {
            Edges.due("4", kept("pa=4"), 3125);
            Edges.due("04", kept("pa=04"), 3125);
            Edges.due("40", kept("pa=40"), 0);
            Edges.due("00", kept("pa=00"), 3125);
            Edges.due("10", kept("pa+pb+pc=10"), kept("pa+pb+pc>9") - kept("pa+pb+pc>10"));
            Edges.due("12", kept("pa+pb+pc=12"), 125);
        });
        Edges.edge("2: one or more TERMS: a sum over both WARES", () -> {
            Edges.due("24", kept("pa+pb+pc+qa+qb+qc=24"), 1);
            Edges.due("above 23", kept("pa+pb+pc+qa+qb+qc>23"), 1);
            Edges.due("above 24", kept("pa+pb+pc+qa+qb+qc>24"), 0);
            Edges.due("below 24", kept("pa+pb+pc+qa+qb+qc<24"), 15624);
            Edges.due("below 25", kept("pa+pb+pc+qa+qb+qc<25"), 15625);
            Edges.due("below 1", kept("pa+pb+pc+qa+qb+qc<1"), 1);
        });
        Edges.edge("2: a TERM may stand twice, and counts twice; sixteen have room", () -> {
            Edges.due("2 and 2", kept("pa+pa=4"), 3125);
            Edges.due("no half", kept("pa+pa=5"), 0);
            Edges.due("64", kept(SIXTEEN + "=64"), 3125);
            Edges.due("above 63", kept(SIXTEEN + ">63"), 3125);
            Edges.due("above 64", kept(SIXTEEN + ">64"), 0);
            Edges.due("below 64", kept(SIXTEEN + "<64"), 12500);
            Edges.due("below 65", kept(SIXTEEN + "<65"), 15625);
            String ofQ = SIXTEEN.replace("pa", "qc");
            Edges.due("64 of q", kept(ofQ + "=64"), 3125);
            Edges.due("above 63 of q", kept(ofQ + ">63"), 3125);
            Edges.due("above 64 of q", kept(ofQ + ">64"), 0);
            Edges.due("below 64 of q", kept(ofQ + "<64"), 12500);
            Edges.due("99 of q", kept(ofQ + "<99"), 15625);
        });
    }

    private static void boths() {
        Edges.edge("2: a BOTH: all of its TESTS", () -> {
            Edges.due("two", kept("pa=1&qa=2"), 625);
            Edges.due("the first is not", kept("pa=9&qa=2"), 0);
            Edges.due("the last is not", kept("pa=1&qa=9"), 0);
            Edges.due("ten, the most that have room", kept("pa=1&pb=1&pc=1&qa=1&qb=1&qc=1&pa=1&pa=1&pa=1&pa=1"), 1);
            Edges.due("against each other", kept("pa=1&pa=2"), 0);
        });
        Edges.edge("2: kept, if some BOTH is so", () -> {
            Edges.due("two", kept("pa=1|pa=2"), 6250);
            Edges.due("the first alone", kept("pa=1|pa=9"), 3125);
            Edges.due("the last alone", kept("pa=9|pa=1"), 3125);
            Edges.due("none", kept("pa=9|pa=8"), 0);
            Edges.due("one between", kept("pa=9|pa=1|pa=8"), 3125);
            Edges.due("both at once count once", kept("pa=1|pa=1"), 3125);
        });
        Edges.edge("2: & holds more closely than |", () -> {
            Edges.due("at the end", kept("pa=1|qa=2&qb=3"), 3125 + 500);
            Edges.due("at the start", kept("qa=2&qb=3|pa=1"), 3125 + 500);
            Edges.due("twice", kept("pa=1&pb=1|pa=2&pb=2"), 1250);
        });
        Edges.edge("11: BOTHS: one, ten (the most that have room)", () -> {
            Edges.due("one", kept("pa=0&pb=0"), 625);
            Edges.due("ten", kept("pa=0|pb=0|pc=0|qa=0|qb=0|qc=0|pa=1|pb=1|pc=1|qa=1"), 15625 - 3 * 3 * 3 * 3 * 4 * 4);
        });
    }

    private static void ruling() {
        Edges.edge("11: the RULE is the signs', they are empty then", () -> {
            WorkedBack x = said("pa=1|pa=2");
            Edges.due("BOTHS", x.rule(), 2);
            Edges.due("signs", x.told(1), 0);
            Edges.due("told", x.told(2), 2);
            Edges.due("the first sign again", x.say('q'), 1);
            Edges.due("50 have room again", sayMany(x, 49), 50);
            Edges.due("no more", x.say('q'), Edges.FULL);
            Edges.due("the RULE does not know of them", x.all(-1), 6250);
        });
        Edges.edge("11: NO: there is a FAULT: no signs, too few, a wrong one", () -> {
            Edges.due("no signs", new WorkedBack().rule(), Edges.NO);
            Edges.due("too few", said("pa=").rule(), Edges.NO);
            Edges.due("a wrong one", said("pa=1x").rule(), Edges.NO);
            Edges.due("three digits", said("pa=100").rule(), Edges.NO);
        });
        Edges.edge("11: refused, signs and RULE stay as they were", () -> {
            WorkedBack x = new WorkedBack();
            Edges.rule(x, "pa=1|pa=2");
            Edges.due("no signs", x.rule(), Edges.NO);
            Edges.due("BOTHS", x.told(2), 2);
            Edges.say(x, "qa");
            Edges.due("too few", x.rule(), Edges.NO);
            Edges.due("signs", x.told(1), 2);
            Edges.due("BOTHS", x.told(2), 2);
            Edges.due("all", x.all(-1), 6250);
            Edges.say(x, "=3");
            Edges.due("they go on from there", x.rule(), 1);
            Edges.due("all", x.all(-1), 3125);
        });
        Edges.edge("11: another RULE comes in the place of the one before", () -> {
            WorkedBack x = new WorkedBack();
            Edges.rule(x, "pa=1");
            Edges.rule(x, "pa=2|pb=9|pc=9");
            Edges.due("BOTHS", x.told(2), 3);
            Edges.due("all", x.all(-1), 3125);
            Edges.due("the old one", x.fits(Edges.only(0, 1, 0), 0), 0);
            Edges.due("the new one", x.fits(Edges.only(0, 2, 0), 0), 1);
        });
        Edges.edge("11: nothing of the one before is left in it, how great its sums were", () -> {
            WorkedBack x = new WorkedBack();
            String ofQ = SIXTEEN.replace("pa", "qb");
            Edges.rule(x, ofQ.replaceFirst("qb", "qa") + "<64");
            Edges.due("63 at most", x.all(-1), 15000);
            Edges.rule(x, ofQ + "<64");
            Edges.due("60 at most", x.all(-1), 12500);
            Edges.rule(x, ofQ + "=61");
            Edges.due("no 61", x.all(-1), 0);
        });
        Edges.edge("12: there is no RULE any more: how many BOTHS it had: none, one, ten", () -> {
            WorkedBack x = new WorkedBack();
            Edges.due("none", x.free(), 0);
            Edges.rule(x, "pa=9");
            Edges.due("none keeps it", x.all(-1), 0);
            Edges.due("one", x.free(), 1);
            Edges.due("all", x.all(-1), 15625);
            Edges.due("told", x.told(2), 0);
            Edges.due("none any more", x.free(), 0);
            Edges.rule(x, "pa=0|pb=0|pc=0|qa=0|qb=0|qc=0|pa=1|pb=1|pc=1|qa=1");
            Edges.due("ten", x.free(), 10);
        });
        Edges.edge("12: signs stay", () -> {
            WorkedBack x = new WorkedBack();
            Edges.rule(x, "pa=9");
            Edges.say(x, "qa=1");
            x.free();
            Edges.due("signs", x.told(1), 4);
            Edges.due("they are right", x.rule(), 1);
            Edges.due("all", x.all(-1), 3125);
        });
    }

    private static int sayMany(WorkedBack x, int many) {
        int answer = 0;
        for (int i = 0; i < many; i++) answer = x.say('p');
        return answer;
    }

    private static void fitting() {
        Edges.edge("13: keeps the RULE (0), AGREES (1), FITS (2): 1, 0", () -> {
            WorkedBack x = Edges.strict();
            x.month(2, 0, 0, 0, 1, 0);
            Edges.rule(x, "qa=0");
            int[] mixtures = {Edges.only(0, 2, 0), Edges.only(0, 2, 1), Edges.only(0, 1, 0), Edges.only(0, 1, 1)};
            int[][] want = {{1, 1, 1}, {0, 1, 0}, {1, 0, 0}, {0, 0, 0}};
            for (int i = 0; i < 4; i++) {
                for (int how = 0; how < 3; how++) Edges.due(i + " " + how, x.fits(mixtures[i], how), want[i][how]);
            }
        });
        Edges.edge("13: each of 125 ways to make q, and no other one", () -> {
            for (int part = 0; part < 125; part++) {
                WorkedBack x = new WorkedBack();
                Edges.rule(x, "qa=" + part / 25 + "&qb=" + part / 5 % 5 + "&qc=" + part % 5);
                for (int other = 0; other < 125; other++) {
                    Edges.due(part + " " + other, x.fits(125 * other + other, 0), other == part ? 1 : 0);
                }
            }
        });
        Edges.edge("13: the first and the last MIXTURE, and those beside them", () -> {
            WorkedBack x = new WorkedBack();
            for (int how = 0; how < 3; how++) {
                Edges.due("-1", x.fits(-1, how), Edges.UNKNOWN);
                Edges.due("0", x.fits(0, how), 1);
                Edges.due("15624", x.fits(15624, how), 1);
                Edges.due("15625", x.fits(15625, how), Edges.UNKNOWN);
            }
        });
        Edges.edge("13: how is 0 to 2, and UNKNOWN comes first", () -> {
            WorkedBack x = new WorkedBack();
            Edges.due("-1", x.fits(0, -1), Edges.OUTSIDE);
            Edges.due("3", x.fits(0, 3), Edges.OUTSIDE);
            Edges.due("both", x.fits(15625, 3), Edges.UNKNOWN);
            Edges.due("both", x.fits(-1, -1), Edges.UNKNOWN);
        });
    }

    public static void main(String[] args) {
        signs();
        faults();
        tests();
        boths();
        ruling();
        fitting();
        Edges.end("rules");
    }
}
