/** What the tests of edges share: a sentence of the document, and what is due of it. */
final class Edges {
    static final int NONE = WorkedBack.NONE, UNKNOWN = WorkedBack.UNKNOWN, OUTSIDE = WorkedBack.OUTSIDE,
            STATE = WorkedBack.STATE, FULL = WorkedBack.FULL, NO = WorkedBack.NO;
    static final int LEAST = 0, MOST = 1, HOLDS = 2, LOST = 3;
    static final int GIVE = 3, OUT = 4, PRICE = 6;

    private static int sentences;
    private static int wrong;
    private static boolean held;

    private Edges() {
    }

    /** One test of its own for one sentence. */
    static void edge(String sentence, Runnable test) {
        sentences++;
        held = true;
        try {
            test.run();
        } catch (RuntimeException e) {
            System.out.println("   threw " + e);
            held = false;
        }
        if (!held) {
            wrong++;
            System.out.println("BROKEN: " + sentence);
        }
    }

    static void due(String what, int got, int want) {
        if (got != want) {
            held = false;
            System.out.println("   " + what + " answered " + got + ", due is " + want);
        }
    }

    /** Ends the program: with 1, if a sentence did not hold. */
    static void end(String name) {
        System.out.println(name + ": " + sentences + " sentences, " + wrong + " broken");
        if (wrong > 0) System.exit(1);
    }

    static int mix(int pa, int pb, int pc, int qa, int qb, int qc) {
        return ((((pa * 5 + pb) * 5 + pc) * 5 + qa) * 5 + qb) * 5 + qc;
    }

    /** A MIXTURE with so much of one THING in p and in q, and nothing else. */
    static int only(int thing, int p, int q) {
        int[] power = {25, 5, 1};
        return (125 * p + q) * power[thing];
    }

    static void say(WorkedBack x, String text) {
        for (char sign : text.toCharArray()) x.say(sign);
    }

    /** Makes a text the RULE; it must have no FAULT. */
    static void rule(WorkedBack x, String text) {
        x.wipe();
        say(x, text);
        due("rule " + text, x.rule(), text.split("\\|").length);
    }

    /** Nothing is kept from one MONTH to the next: what is NEEDED must be what came in. */
    static WorkedBack strict() {
        WorkedBack x = new WorkedBack();
        for (int t = 0; t < 3; t++) x.stock(t, HOLDS, 0);
        return x;
    }

    /** A MONTH in which one THING came in alone. */
    static int monthOf(WorkedBack x, int thing, int in, int give, int p, int q) {
        return x.month(thing == 0 ? in : 0, thing == 1 ? in : 0, thing == 2 ? in : 0, give, p, q);
    }

    static void agrees(String what, WorkedBack x, int mixture, boolean want) {
        due(what, x.fits(mixture, 1), want ? 1 : 0);
    }
}
