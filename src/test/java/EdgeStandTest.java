/** One THING stands in for another one: all six of them, in all that looks at NEEDS. */
public final class EdgeStandTest {
    /** A MONTH with one of a WARE out, in which the one is cheaper than the other. */
    private static void cheaper(WorkedBack x, int one, int other, int ware, int[] ins) {
        int month = x.month(ins[0], ins[1], ins[2], 0, ware == 0 ? 1 : 0, ware == 1 ? 1 : 0);
        x.change(month, Edges.PRICE + other, 1);
        x.stand(one, other);
    }

    private static int[] ins(int thing, int in) {
        int[] ins = new int[3];
        ins[thing] = in;
        return ins;
    }

    private static int[] ins(int thing, int in, int second, int secondIn) {
        int[] ins = ins(thing, in);
        ins[second] = secondIn;
        return ins;
    }

    private static int of(int thing, int ware, int amount) {
        return Edges.only(thing, ware == 0 ? amount : 0, ware == 1 ? amount : 0);
    }

    private static String term(int ware, int thing) {
        return "" + "pq".charAt(ware) + "abc".charAt(thing);
    }

    private static void agreeing(String who, int one, int other, int third) {
        Edges.edge(who + "all that is NEEDED of the other one is NEEDED of it", () -> {
            WorkedBack x = Edges.strict();
            x.month(0, 0, 0, 0, 1, 1);
            x.change(0, one, 2);
            x.change(0, Edges.PRICE + other, 1);
            Edges.due("none stands in yet", x.all(-1), 3);
            x.stand(one, other);
            Edges.due("2 of four numbers", x.all(-1), 10);
            for (int ware = 0; ware < 2; ware++) {
                Edges.due("the one", x.ends(ware, one, 1), 2);
                Edges.due("the other", x.ends(ware, other, 1), 2);
                Edges.due("the third", x.ends(ware, third, 1), 0);
            }
            x.change(0, one, 16);
            Edges.due("all of both", x.all(-1), 1);
            Edges.due("4 each", x.all(0), Edges.only(one, 4, 4) + Edges.only(other, 4, 4));
            x.change(0, one, 17);
            Edges.due("too much", x.all(-1), 0);
            x.change(0, one, 2);
            x.change(0, Edges.PRICE + one, 1);
            Edges.due("the same PRICE", x.all(-1), 3);
        });
        Edges.edge(who + "one that keeps what the other one's MONTHS leave", () -> {
            WorkedBack x = Edges.strict();
            x.month(0, 0, 0, 0, 1, 0);
            x.month(0, 0, 0, 0, 1, 0);
            x.change(0, one, 3);
            x.change(1, one, 1);
            x.change(1, other, 2);
            x.change(0, Edges.PRICE + other, 1);
            x.stand(one, other);
            Edges.due("1 and 2", x.all(-1), 125);
            Edges.due("they", x.all(0), Edges.only(one, 1, 0) + Edges.only(other, 2, 0));
            x.change(0, Edges.PRICE + other, 0);
            Edges.due("not in MONTH 0 any more", x.all(-1), 0);
            x.change(1, Edges.PRICE + other, 1);
            Edges.due("nor by MONTH 1", x.all(-1), 0);
        });
        Edges.edge(who + "JUDGED: the one is, the other is not", () -> {
            WorkedBack x = Edges.strict();
            cheaper(x, one, other, 0, ins(one, 1));
            int mixture = Edges.only(other, 2, 0);
            Edges.due("the MONTH", x.judge(mixture, 0), 0);
            Edges.due("the THING", x.judge(mixture, 1), one);
            Edges.due("the one's STOCK", x.lies(mixture, one, 0, 0), Edges.NO);
            Edges.due("the other's STOCK", x.lies(mixture, other, 0, 0), 0);
            x.change(0, one, 2);
            Edges.due("it AGREES", x.judge(mixture, 0), Edges.NONE);
        });
    }

    private static void searching(String who, int one, int other, int third) {
        Edges.edge(who + "NEAR", () -> {
            WorkedBack x = Edges.strict();
            cheaper(x, one, other, 0, ins(one, 20));
            Edges.due("20 less 8", x.near(0), 12);
            int least = Edges.only(one, 4, 0) + Edges.only(other, 4, 0);
            Edges.due("4 of both", x.near(1), least);
            x.stand(-1, -1);
            Edges.due("20 less 4", x.near(0), 16);
            Edges.due("4 of one", x.near(1), Edges.only(one, 4, 0));
        });
        Edges.edge(who + "DOUBT", () -> {
            WorkedBack x = Edges.strict();
            cheaper(x, one, other, 0, ins(one, 7));
            cheaper(x, one, other, 0, ins(one, 8));
            cheaper(x, one, other, 0, ins(one, 8));
            Edges.due("MONTH 0", x.doubt(0), 1);
            Edges.due("4 of both", x.doubt(1), Edges.only(one, 4, 0) + Edges.only(other, 4, 0));
            x.change(1, third, 1);
            Edges.due("MONTHS 0 and 1", x.doubt(0), 3);
        });
    }

    private static void changed(String what, WorkedBack x, int thing, int first, int second) {
        Edges.due(what + ": the MONTH", x.changed(0), 1);
        Edges.due(what + ": the THING", x.changed(1), thing);
        Edges.due(what + ": the first", x.changed(2), first);
        Edges.due(what + ": the second", x.changed(3), second);
    }

    private static void changing(String who, int one, int other, int third) {
        for (int w = 0; w < 2; w++) {
            int ware = w;
            Edges.edge(who + "CHANGED: the one, in " + "pq".charAt(ware), () -> {
                WorkedBack x = Edges.strict();
                cheaper(x, one, other, ware, ins(one, 3));
                cheaper(x, one, other, ware, ins(one, 4));
                Edges.rule(x, term(ware, other) + "=1");
                changed("2 to 3", x, one, of(one, ware, 2) + of(other, ware, 1), of(one, ware, 3) + of(other, ware, 1));
                x.change(0, one, 5);
                changed("4 to 3", x, one, of(one, ware, 4) + of(other, ware, 1), of(one, ware, 3) + of(other, ware, 1));
                x.change(0, one, 6);
                Edges.due("5 to 3", x.changed(0), Edges.NO);
            });
            Edges.edge(who + "CHANGED: the other, in " + "pq".charAt(ware), () -> {
                WorkedBack x = Edges.strict();
                cheaper(x, one, other, ware, ins(one, 8));
                cheaper(x, one, other, ware, ins(one, 7));
                Edges.rule(x, term(ware, one) + "=4");
                changed("4 to 3", x, other, of(one, ware, 4) + of(other, ware, 4), of(one, ware, 4) + of(other, ware, 3));
                x.change(0, one, 4);
                changed("0 to 3", x, other, of(one, ware, 4), of(one, ware, 4) + of(other, ware, 3));
                x.change(0, one, 3);
                Edges.due("1 less than none", x.changed(0), Edges.NO);
            });
            Edges.edge(who + "CHANGED: it stands in ahead of the MONTH alone, in " + "pq".charAt(ware), () -> {
                WorkedBack x = Edges.strict();
                cheaper(x, one, other, ware, ins(one, 3));
                cheaper(x, one, other, ware, ins(one, 1, other, 1));
                x.change(1, Edges.PRICE + one, 1);
                Edges.rule(x, term(ware, one) + "=1");
                changed("2 to 1", x, other, of(one, ware, 1) + of(other, ware, 2), of(one, ware, 1) + of(other, ware, 1));
                x.change(0, other, 1);
                Edges.due("1 of the other one would have to stay", x.changed(0), Edges.NO);
            });
            Edges.edge(who + "CHANGED: it stands in from the MONTH on alone, in " + "pq".charAt(ware), () -> {
                WorkedBack x = Edges.strict();
                cheaper(x, one, other, ware, ins(one, 1, other, 2));
                x.change(0, Edges.PRICE + one, 1);
                cheaper(x, one, other, ware, ins(one, 4));
                Edges.rule(x, term(ware, one) + "=1");
                changed("2 to 3", x, other, of(one, ware, 1) + of(other, ware, 2), of(one, ware, 1) + of(other, ware, 3));
                x.change(1, other, 1);
                Edges.due("1 of the other one would have to stay", x.changed(0), Edges.NO);
            });
            Edges.edge(who + "CHANGED: the third, in " + "pq".charAt(ware), () -> {
                WorkedBack x = Edges.strict();
                cheaper(x, one, other, ware, ins(one, 3, third, 2));
                cheaper(x, one, other, ware, ins(one, 3, third, 1));
                Edges.rule(x, term(ware, one) + "=1");
                int both = of(one, ware, 1) + of(other, ware, 2);
                changed("2 to 1", x, third, both + of(third, ware, 2), both + of(third, ware, 1));
                x.change(1, one, 4);
                Edges.due("two THINGS", x.changed(0), Edges.NO);
            });
        }
        Edges.edge(who + "CHANGED: of the two the first THING", () -> {
            WorkedBack x = Edges.strict();
            cheaper(x, one, other, 0, ins(one, 8));
            cheaper(x, one, other, 0, ins(one, 7));
            int first = Math.min(one, other);
            int full = Edges.only(one, 4, 0) + Edges.only(other, 4, 0);
            changed("4 to 3", x, first, full, full - Edges.only(first, 1, 0));
        });
    }

    private static void weighing(String who, int one, int other, int third) {
        Edges.edge(who + "SETTLE: its IN settles both", () -> {
            WorkedBack x = Edges.strict();
            x.month(0, 0, 0, 1, 1, 1);
            x.change(0, one, 3);
            x.change(0, Edges.PRICE + other, 1);
            x.stand(one, other);
            Edges.due("2 to 4 of four numbers, 0 or 1 of two", x.all(-1), (10 + 20 + 35) * 3);
            Edges.due("the MONTH", x.settle(0), 0);
            Edges.due("the THING", x.settle(1), one);
            Edges.due("how many", x.settle(2), 35 * 3);
        });
        Edges.edge(who + "SETTLE: with nothing in q", () -> {
            WorkedBack x = Edges.strict();
            x.month(0, 0, 0, 1, 1, 1);
            x.change(0, one, 3);
            x.change(0, Edges.PRICE + other, 1);
            x.stand(one, other);
            Edges.rule(x, "qa+qb+qc=0");
            Edges.due("2 to 4 of two numbers, 0 or 1", x.all(-1), (3 + 4 + 5) * 2);
            Edges.due("the THING", x.settle(1), one);
            Edges.due("how many", x.settle(2), 5 * 2);
        });
        Edges.edge(who + "SETTLE: the other one's IN tells nothing then", () -> {
            WorkedBack x = new WorkedBack();
            x.month(0, 0, 0, 0, 1, 0);
            x.change(0, other, 9);
            x.change(0, Edges.GIVE, 5);
            x.change(0, Edges.PRICE + other, 1);
            x.stand(one, other);
            x.stock(one, Edges.MOST, 99);
            x.stock(third, Edges.MOST, 99);
            Edges.due("all", x.all(-1), 15625);
            Edges.due("the MONTH", x.settle(0), 0);
            Edges.due("the THING", x.settle(1), 0);
            Edges.due("how many", x.settle(2), 15625);
        });
        Edges.edge(who + "HIDE: more of it hides both", () -> {
            WorkedBack x = Edges.strict();
            x.month(0, 0, 0, 0, 1, 1);
            for (int t = 0; t < 3; t++) x.change(0, Edges.PRICE + t, t == one ? 1 : 2);
            x.stand(one, other);
            int[] due = {0, one, 8, 85};
            for (int what = 0; what < 4; what++) Edges.due("8 of four numbers", x.hide(8, what), due[what]);
            int[] less = {0, one, 7, 80};
            for (int what = 0; what < 4; what++) Edges.due("7 of four numbers", x.hide(7, what), less[what]);
            for (int what = 0; what < 4; what++) Edges.due("more do not help", x.hide(999, what), due[what]);
        });
    }

    public static void main(String[] args) {
        for (int one = 0; one < 3; one++) {
            for (int other = 0; other < 3; other++) {
                if (one == other) continue;
                String who = "abc".charAt(one) + " for " + "abc".charAt(other) + ": ";
                int third = 3 - one - other;
                agreeing(who, one, other, third);
                searching(who, one, other, third);
                changing(who, one, other, third);
                weighing(who, one, other, third);
            }
        }
        Edges.end("what stands in");
    }
}
