/** Edges of changes, costs and what to do: section 4 of the Terms, promises 23 to 31. */
public final class EdgeDoTest {
    /** MONTHS with so much of a and one p each. */
    private static WorkedBack byMonths(int... ins) {
        WorkedBack x = Edges.strict();
        for (int in : ins) x.month(in, 0, 0, 0, 1, 0);
        return x;
    }

    private static void changed(String what, WorkedBack x, int month, int thing, int first, int second) {
        Edges.due(what + ": the MONTH", x.changed(0), month);
        Edges.due(what + ": the THING", x.changed(1), thing);
        Edges.due(what + ": the first", x.changed(2), first);
        Edges.due(what + ": the second", x.changed(3), second);
    }

    private static void notChanged(String what, WorkedBack x, int due) {
        changed(what, x, due, due, due, due);
    }

    private static void changing() {
        Edges.edge("23: the MONTH: 1 on, each till the last of eight", () -> {
            for (int from = 1; from < 8; from++) {
                WorkedBack x = Edges.strict();
                for (int m = 0; m < 8; m++) x.month(m < from ? 1 : 3, 0, 0, 0, 1, 0);
                changed("from " + from, x, from, 0, Edges.only(0, 1, 0), Edges.only(0, 3, 0));
            }
        });
        Edges.edge("23: two MONTHS are the fewest; there is no MONTH 1 of one", () -> {
            changed("two", byMonths(4, 0), 1, 0, Edges.only(0, 4, 0), 0);
            notChanged("one", byMonths(5), Edges.NO);
        });
        Edges.edge("23: till a MONTH (not counted), from it on", () -> {
            WorkedBack x = byMonths(1, 1, 2, 2);
            changed("from 2", x, 2, 0, Edges.only(0, 1, 0), Edges.only(0, 2, 0));
            x.change(1, 0, 2);
            changed("from 1", x, 1, 0, Edges.only(0, 1, 0), Edges.only(0, 2, 0));
            x.change(1, 0, 1);
            x.change(2, 0, 1);
            changed("from 3", x, 3, 0, Edges.only(0, 1, 0), Edges.only(0, 2, 0));
        });
        Edges.edge("23: the first MONTH, where two would do", () -> {
            WorkedBack x = byMonths(1, 1, 2);
            x.change(1, Edges.GIVE, 1);
            changed("1 or 2", x, 1, 0, Edges.only(0, 1, 0), Edges.only(0, 2, 0));
        });
        Edges.edge("23: each THING", () -> {
            for (int t = 0; t < 3; t++) {
                WorkedBack x = Edges.strict();
                Edges.monthOf(x, t, 3, 0, 1, 0);
                Edges.monthOf(x, t, 1, 0, 1, 0);
                changed("THING " + t, x, 1, t, Edges.only(t, 3, 0), Edges.only(t, 1, 0));
            }
        });
        Edges.edge("23: the first THING, where two would do", () -> {
            WorkedBack x = Edges.strict();
            x.stock(0, Edges.HOLDS, 1);
            x.stock(1, Edges.HOLDS, 1);
            x.month(2, 2, 0, 0, 1, 0);
            x.month(1, 1, 0, 0, 1, 0);
            Edges.due("1 of each", x.all(-1), 125);
            Edges.rule(x, "pa=1&pb=2|pa=1&pb=0");
            changed("b", x, 1, 1, Edges.mix(1, 2, 0, 0, 0, 0), Edges.mix(1, 0, 0, 0, 0, 0));
            Edges.rule(x, "pa=1&pb=2|pa=1&pb=0|pa=2&pb=1|pa=0&pb=1");
            changed("a", x, 1, 0, Edges.mix(2, 1, 0, 0, 0, 0), Edges.mix(0, 1, 0, 0, 0, 0));
        });
        Edges.edge("23: unlike in one THING alone: NO, if two are", () -> {
            WorkedBack x = Edges.strict();
            x.month(1, 1, 0, 0, 1, 0);
            x.month(1, 2, 0, 0, 1, 0);
            changed("b", x, 1, 1, Edges.mix(1, 1, 0, 0, 0, 0), Edges.mix(1, 2, 0, 0, 0, 0));
            x.change(1, 0, 2);
            notChanged("a and b", x, Edges.NO);
        });
        Edges.edge("23: that THING in p, in q, in both", () -> {
            WorkedBack x = Edges.strict();
            x.month(1, 0, 0, 0, 1, 0);
            x.month(1, 0, 0, 0, 0, 1);
            x.month(1, 0, 0, 0, 1, 0);
            x.month(2, 0, 0, 0, 0, 1);
            changed("q", x, 2, 0, Edges.only(0, 1, 1), Edges.only(0, 1, 2));
            x.change(2, 0, 2);
            changed("both", x, 2, 0, Edges.only(0, 1, 1), Edges.only(0, 2, 2));
            x.change(3, 0, 1);
            changed("p", x, 1, 0, Edges.only(0, 1, 0), Edges.only(0, 2, 1));
        });
        Edges.edge("23: both keep the RULE", () -> {
            WorkedBack x = byMonths(1, 2);
            Edges.rule(x, "pa=1|qa=1");
            changed("the second by qa", x, 1, 0, Edges.only(0, 1, 0), Edges.only(0, 2, 1));
            Edges.rule(x, "pa=2|qa=1");
            changed("the first by qa", x, 1, 0, Edges.only(0, 1, 1), Edges.only(0, 2, 0));
            Edges.rule(x, "pa=1");
            notChanged("the second does not", x, Edges.NO);
            Edges.rule(x, "pa=2");
            notChanged("the first does not", x, Edges.NO);
            Edges.rule(x, "pa=1&qb=0|pa=2&qb=1");
            notChanged("they would be unlike in b, too", x, Edges.NO);
        });
        Edges.edge("23: the first by the numbers of both: the first one's, then the second one's", () -> {
            WorkedBack x = byMonths(2, 4);
            x.change(0, Edges.GIVE, 1);
            Edges.rule(x, "pa=1&qa=3|pa=2&qa=0|pa=4&qa=2|pa=4&qa=4");
            changed("1 to 3, then 4", x, 1, 0, Edges.only(0, 1, 3), Edges.only(0, 4, 2));
            x.change(0, 0, 99);
            notChanged("94 to 99", x, Edges.NO);
        });
        Edges.edge("23: the second one's number may be below the first one's", () ->
                changed("4, then 0", byMonths(4, 4, 0), 2, 0, Edges.only(0, 4, 0), 0));
        Edges.edge("23: STOCKS go on from the first to the second", () -> {
            WorkedBack x = Edges.strict();
            x.stock(0, Edges.HOLDS, 1);
            x.month(4, 0, 0, 0, 1, 0);
            x.month(1, 0, 0, 0, 1, 0);
            changed("1 stays, and 1 comes: 1 must go", x, 1, 0, Edges.only(0, 3, 0), Edges.only(0, 1, 0));
            x.change(1, 0, 0);
            changed("1 stays, none comes", x, 1, 0, Edges.only(0, 3, 0), 0);
            x.stock(0, Edges.HOLDS, 0);
            changed("none stays, none comes", x, 1, 0, Edges.only(0, 4, 0), 0);
        });
        Edges.edge("23: from MIXTURE 0", () -> changed("0, then 1", byMonths(0, 1), 1, 0, 0, Edges.only(0, 1, 0)));
        Edges.edge("23: the first that has a second, one number behind one that has none", () -> {
            WorkedBack x = byMonths(1, 2);
            Edges.rule(x, "pa=1|qc=1");
            changed("with 1 of c in q", x, 1, 0, Edges.only(0, 1, 0) + 1, Edges.only(0, 2, 0) + 1);
        });
        Edges.edge("23: the first that has a second, far behind one that has none", () -> {
            WorkedBack x = byMonths(1, 2);
            Edges.rule(x, "pa=1&qa+qb+qc=0|pa=1&qa=4&qc=1|pa=2&qa=4&qc=1");
            changed("with 4 of a and 1 of c in q", x, 1, 0, Edges.mix(1, 0, 0, 4, 0, 1), Edges.mix(2, 0, 0, 4, 0, 1));
        });
        Edges.edge("23: to nothing of it in both WARES", () -> {
            WorkedBack x = Edges.strict();
            x.month(3, 0, 0, 0, 1, 0);
            x.month(0, 0, 0, 0, 1, 1);
            changed("3 to 0", x, 1, 0, Edges.only(0, 3, 0), 0);
        });
        Edges.edge("23: in q alone, one more and one less", () -> {
            WorkedBack x = Edges.strict();
            x.month(2, 0, 0, 0, 0, 1);
            x.month(1, 0, 0, 0, 0, 1);
            changed("2 to 1", x, 1, 0, Edges.only(0, 0, 2), Edges.only(0, 0, 1));
            x.change(1, 0, 3);
            changed("2 to 3", x, 1, 0, Edges.only(0, 0, 2), Edges.only(0, 0, 3));
        });
        Edges.edge("23: LOST and GIVE of MONTHS from it on", () -> {
            WorkedBack x = byMonths(4, 0, 0);
            x.change(2, 0, 1);
            Edges.rule(x, "pa=4|pa=0");
            notChanged("1 would have to stay", x, Edges.NO);
            x.stock(0, Edges.LOST, 1);
            changed("it may be gone", x, 1, 0, Edges.only(0, 4, 0), 0);
            x.stock(0, Edges.LOST, 0);
            x.change(2, Edges.GIVE, 1);
            changed("it may not have come", x, 1, 0, Edges.only(0, 4, 0), 0);
        });
        Edges.edge("23: STATE: some FITS without, with no MONTHS, too", () -> {
            notChanged("no MONTHS", new WorkedBack(), Edges.STATE);
            notChanged("one", byMonths(2), Edges.STATE);
            notChanged("two", byMonths(2, 2), Edges.STATE);
        });
        Edges.edge("23: NO: there is none: no MONTHS, twice changed, the RULE", () -> {
            notChanged("1, 2, 1", byMonths(1, 2, 1), Edges.NO);
            notChanged("1, 2, 3", byMonths(1, 2, 3), Edges.NO);
            WorkedBack x = byMonths(1, 2);
            Edges.rule(x, "pa=5");
            notChanged("none keeps it", x, Edges.NO);
            x.tear();
            x.tear();
            notChanged("no MONTHS", x, Edges.NO);
        });
        Edges.edge("23: OUTSIDE: what is 0 to 3; ahead of STATE and NO", () -> {
            WorkedBack x = new WorkedBack();
            Edges.due("4", x.changed(4), Edges.OUTSIDE);
            Edges.due("-1", x.changed(-1), Edges.OUTSIDE);
            Edges.rule(x, "pa=5");
            Edges.due("4", x.changed(4), Edges.OUTSIDE);
            Edges.due("3", x.changed(3), Edges.NO);
        });
    }

    private static WorkedBack priced(int a, int b, int c) {
        WorkedBack x = new WorkedBack();
        x.month(0, 0, 0, 0, 0, 0);
        x.month(0, 0, 0, 0, 0, 0);
        x.change(1, Edges.PRICE, a);
        x.change(1, Edges.PRICE + 1, b);
        x.change(1, Edges.PRICE + 2, c);
        return x;
    }

    private static void costing() {
        Edges.edge("24: PRICES of all that is in it: none, the most", () -> {
            WorkedBack x = priced(99, 99, 99);
            Edges.due("nothing in it", x.cost(0, 0, 1), 0);
            Edges.due("all in it", x.cost(15624, 0, 1), 1188);
            Edges.due("all in it", x.cost(15624, 1, 1), 1188);
            Edges.due("PRICES 0", x.cost(15624, 0, 0), 0);
        });
        Edges.edge("24: of a WARE alone, each THING by its PRICE", () -> {
            WorkedBack x = priced(1, 10, 99);
            Edges.due("p", x.cost(Edges.mix(1, 2, 3, 4, 0, 1), 0, 1), 1 + 20 + 297);
            Edges.due("q", x.cost(Edges.mix(1, 2, 3, 4, 0, 1), 1, 1), 4 + 99);
        });
        Edges.edge("24: as if nothing stood in", () -> {
            WorkedBack x = priced(1, 10, 99);
            x.stand(0, 2);
            Edges.due("c in p", x.cost(Edges.only(2, 1, 0), 0, 1), 99);
        });
        Edges.edge("24: it need not AGREE, nor keep the RULE", () -> {
            WorkedBack x = priced(1, 10, 99);
            x.change(0, 4, 20);
            Edges.rule(x, "pa=5");
            Edges.due("all in it", x.cost(15624, 0, 1), 440);
        });
        Edges.edge("24: UNKNOWN: MIXTURE, WARE, MONTH", () -> {
            WorkedBack x = priced(1, 1, 1);
            Edges.due("the last of all", x.cost(15624, 1, 1), 12);
            Edges.due("MIXTURE", x.cost(15625, 1, 1), Edges.UNKNOWN);
            Edges.due("MIXTURE", x.cost(-1, 1, 1), Edges.UNKNOWN);
            Edges.due("WARE", x.cost(0, 2, 1), Edges.UNKNOWN);
            Edges.due("WARE", x.cost(0, -1, 1), Edges.UNKNOWN);
            Edges.due("MONTH", x.cost(0, 0, 2), Edges.UNKNOWN);
            Edges.due("MONTH", x.cost(0, 0, -1), Edges.UNKNOWN);
            Edges.due("no MONTHS", new WorkedBack().cost(0, 0, 0), Edges.UNKNOWN);
        });
        Edges.edge("25: CHEAP, DEAR: the least and the most over all that FIT", () -> {
            WorkedBack x = priced(99, 99, 99);
            for (int ware = 0; ware < 2; ware++) {
                Edges.due("CHEAP", x.costs(ware, 1, 0), 0);
                Edges.due("DEAR", x.costs(ware, 1, 1), 1188);
                Edges.due("DEAR of MONTH 0", x.costs(ware, 0, 1), 0);
            }
            Edges.rule(x, "pa+pb+pc=3&qa+qb+qc=2|pa+pb+pc=4&qa+qb+qc=4");
            Edges.due("CHEAP p", x.costs(0, 1, 0), 297);
            Edges.due("DEAR p", x.costs(0, 1, 1), 396);
            Edges.due("CHEAP q", x.costs(1, 1, 0), 198);
            Edges.due("DEAR q", x.costs(1, 1, 1), 396);
        });
        Edges.edge("25, 26: each of 125 ways to make a WARE", () -> {
            for (int part = 0; part < 125; part++) {
                int[] amounts = {part / 25, part / 5 % 5, part % 5};
                for (int ware = 0; ware < 2; ware++) {
                    WorkedBack x = priced(1, 10, 99);
                    char sign = "pq".charAt(ware);
                    Edges.rule(x, sign + "a=" + amounts[0] + "&" + sign + "b=" + amounts[1] + "&" + sign + "c=" + amounts[2]);
                    int cost = amounts[0] + 10 * amounts[1] + 99 * amounts[2];
                    Edges.due(part + ": CHEAP", x.costs(ware, 1, 0), cost);
                    Edges.due(part + ": DEAR", x.costs(ware, 1, 1), cost);
                    for (int t = 0; t < 3; t++) {
                        Edges.due(part + ": the least", x.buy(t, 1 - ware, ware, 0), amounts[t]);
                        Edges.due(part + ": the most", x.buy(t, 1 - ware, ware, 1), amounts[t]);
                        Edges.due(part + ": of the other WARE", x.buy(t, ware, 1 - ware, 1), 4);
                    }
                }
            }
        });
        Edges.edge("25: by all that FIT, not by all that keep the RULE; as if nothing stood in", () -> {
            WorkedBack x = Edges.strict();
            x.month(2, 0, 3, 0, 1, 0);
            x.change(0, Edges.PRICE, 7);
            x.change(0, Edges.PRICE + 1, 50);
            x.change(0, Edges.PRICE + 2, 11);
            Edges.due("CHEAP", x.costs(0, 0, 0), 2 * 7 + 3 * 11);
            Edges.due("DEAR", x.costs(0, 0, 1), 2 * 7 + 3 * 11);
            x.stand(2, 1);
            Edges.due("CHEAP: 3 of c", x.costs(0, 0, 0), 2 * 7 + 3 * 11);
            Edges.due("DEAR: 3 of b", x.costs(0, 0, 1), 2 * 7 + 3 * 50);
        });
        Edges.edge("25: UNKNOWN: WARE, MONTH; OUTSIDE: end is 0 or 1; NO: none FITS; in this order", () -> {
            WorkedBack x = priced(1, 1, 1);
            Edges.due("WARE", x.costs(2, 0, 0), Edges.UNKNOWN);
            Edges.due("WARE", x.costs(-1, 0, 0), Edges.UNKNOWN);
            Edges.due("MONTH", x.costs(0, 2, 0), Edges.UNKNOWN);
            Edges.due("MONTH", x.costs(0, -1, 0), Edges.UNKNOWN);
            Edges.due("end", x.costs(0, 0, 2), Edges.OUTSIDE);
            Edges.due("end", x.costs(0, 0, -1), Edges.OUTSIDE);
            Edges.due("UNKNOWN first", x.costs(0, 2, 2), Edges.UNKNOWN);
            Edges.rule(x, "pa=5");
            Edges.due("CHEAP", x.costs(0, 0, 0), Edges.NO);
            Edges.due("DEAR", x.costs(1, 1, 1), Edges.NO);
            Edges.due("OUTSIDE ahead of NO", x.costs(0, 0, 2), Edges.OUTSIDE);
            Edges.due("UNKNOWN ahead of NO", x.costs(0, 2, 0), Edges.UNKNOWN);
        });
    }

    private static void buying() {
        Edges.edge("26: OUTS 0 to 20: the least, the most", () -> {
            WorkedBack x = new WorkedBack();
            for (int t = 0; t < 3; t++) {
                Edges.due("nothing out", x.buy(t, 0, 0, 1), 0);
                Edges.due("the most", x.buy(t, 20, 20, 1), 160);
                Edges.due("p alone", x.buy(t, 20, 0, 1), 80);
                Edges.due("q alone", x.buy(t, 0, 20, 1), 80);
                Edges.due("the least", x.buy(t, 20, 20, 0), 0);
            }
            Edges.due("p 21", x.buy(0, 21, 0, 0), Edges.OUTSIDE);
            Edges.due("p -1", x.buy(0, -1, 0, 0), Edges.OUTSIDE);
            Edges.due("q 21", x.buy(0, 0, 21, 0), Edges.OUTSIDE);
            Edges.due("q -1", x.buy(0, 0, -1, 0), Edges.OUTSIDE);
        });
        Edges.edge("26: over all that FIT: p and q of one MIXTURE go together", () -> {
            WorkedBack x = new WorkedBack();
            Edges.rule(x, "pb+qb=4&pb>0&qb>0");
            Edges.due("1 and 3", x.buy(1, 1, 10, 1), 31);
            Edges.due("3 and 1", x.buy(1, 1, 10, 0), 13);
            Edges.due("all alike", x.buy(1, 5, 5, 0), 20);
            Edges.due("all alike", x.buy(1, 5, 5, 1), 20);
        });
        Edges.edge("26: as if nothing stood in", () -> {
            WorkedBack x = new WorkedBack();
            x.month(0, 0, 0, 0, 0, 0);
            x.change(0, Edges.PRICE + 1, 9);
            x.stand(0, 1);
            Edges.rule(x, "pa=1&pb=2");
            Edges.due("a", x.buy(0, 1, 0, 1), 1);
            Edges.due("b", x.buy(1, 1, 0, 1), 2);
        });
        Edges.edge("26: UNKNOWN: THING; OUTSIDE: end is 0 or 1; NO: none FITS; in this order", () -> {
            WorkedBack x = new WorkedBack();
            Edges.due("THING", x.buy(3, 0, 0, 0), Edges.UNKNOWN);
            Edges.due("THING", x.buy(-1, 0, 0, 0), Edges.UNKNOWN);
            Edges.due("end", x.buy(2, 0, 0, 2), Edges.OUTSIDE);
            Edges.due("end", x.buy(2, 0, 0, -1), Edges.OUTSIDE);
            Edges.due("UNKNOWN first", x.buy(3, 21, 0, 0), Edges.UNKNOWN);
            Edges.rule(x, "pa=5");
            Edges.due("the least", x.buy(2, 1, 1, 0), Edges.NO);
            Edges.due("the most", x.buy(2, 0, 0, 1), Edges.NO);
            Edges.due("OUTSIDE ahead of NO", x.buy(2, 21, 0, 0), Edges.OUTSIDE);
            Edges.due("UNKNOWN ahead of NO", x.buy(3, 0, 0, 0), Edges.UNKNOWN);
        });
    }

    private static void settles(String what, WorkedBack x, int month, int thing, int many) {
        Edges.due(what + ": the MONTH", x.settle(0), month);
        Edges.due(what + ": the THING", x.settle(1), thing);
        Edges.due(what + ": how many", x.settle(2), many);
    }

    private static void settling() {
        Edges.edge("27: whichever of those that it may be: the most of them, the least one", () -> {
            WorkedBack x = Edges.strict();
            x.month(2, 0, 0, 1, 1, 0);
            Edges.rule(x, "pa=3|pa<3&qa=0");
            Edges.due("1 to 3 of a, 0 or 1 of b and c", x.all(-1), 4 * (125 + 25 + 25));
            settles("3 of a would leave 500", x, 0, 1, 350);
            Edges.rule(x, "pa=1|pa>1&qa=0");
            settles("1 of a would leave 500", x, 0, 1, 350);
            Edges.rule(x, "pa=2|qa=0");
            settles("2 of a would leave 500", x, 0, 1, 350);
            Edges.rule(x, "qa=0");
            settles("each of a leaves 100", x, 0, 0, 100);
        });
        Edges.edge("27: it may be 0 at least, however many less", () -> {
            WorkedBack x = Edges.strict();
            x.stock(0, Edges.MOST, 1);
            x.stock(0, Edges.LEAST, 1);
            x.month(0, 0, 0, 1, 1, 0);
            Edges.rule(x, "pa=0|pa>0&qa=0");
            Edges.due("1 or 2 of a, 0 or 1 of b and c", x.all(-1), 200);
            settles("a", x, 0, 0, 100);
        });
        Edges.edge("27: it may be more than 99", () -> {
            WorkedBack x = Edges.strict();
            x.month(99, 0, 0, 1, 20, 20);
            Edges.due("100 of a, 0 of b and c", x.all(-1), 4);
            settles("by 100 all four", x, 0, 0, 4);
        });
        Edges.edge("27: GIVE 5: eleven numbers, both ends of them", () -> {
            WorkedBack x = Edges.strict();
            x.month(10, 0, 0, 5, 5, 0);
            Edges.rule(x, "pb+pc+qa+qb+qc=0");
            Edges.due("5, 10 or 15 of a", x.all(-1), 3);
            settles("one each", x, 0, 0, 1);
            Edges.rule(x, "pb+pc+qb+qc=0&qa<1|pb+pc+qb+qc=0&pa=3");
            settles("15 leaves five; b leaves all", x, 0, 0, 5);
            Edges.rule(x, "pb+pc+qb+qc=0&qa<1|pb+pc+qb+qc=0&pa=1");
            settles("5 leaves five", x, 0, 0, 5);
        });
        Edges.edge("27: GIVE 0: nothing to settle", () -> {
            WorkedBack x = Edges.strict();
            x.month(2, 1, 0, 0, 1, 0);
            settles("all 125", x, 0, 0, 125);
        });
        Edges.edge("27: of several the first MONTH, then THING", () -> {
            WorkedBack x = Edges.strict();
            x.month(0, 1, 0, 1, 1, 0);
            x.month(0, 1, 0, 1, 0, 1);
            Edges.due("0 or 1, 0 to 2, 0 or 1 in each", x.all(-1), 144);
            settles("b in MONTH 0 and in MONTH 1", x, 0, 1, 48);
            x.change(0, 2, 1);
            settles("b and c in MONTH 0", x, 0, 1, 72);
            x.change(0, 1, 0);
            settles("c in MONTH 0, b in MONTH 1", x, 0, 2, 48);
            x.change(1, 0, 4);
            x.change(1, Edges.GIVE, 4);
            settles("a in MONTH 1: 0 to 4", x, 1, 0, 300);
        });
        Edges.edge("27: LOST in that MONTH, and in those behind it", () -> {
            WorkedBack x = Edges.strict();
            x.stock(0, Edges.LOST, 1);
            x.month(2, 0, 0, 1, 1, 0);
            Edges.rule(x, "pb+pc+qa+qb+qc=0");
            Edges.due("0 to 3 of a", x.all(-1), 4);
            settles("each number leaves two", x, 0, 0, 2);
            x.stock(0, Edges.HOLDS, 1);
            x.month(0, 0, 0, 0, 0, 0);
            Edges.due("still 0 to 3, for 1 more may be gone in MONTH 1", x.all(-1), 4);
            settles("each number leaves three at most", x, 0, 0, 3);
            x.stock(0, Edges.LOST, 0);
            settles("none is gone: two at most", x, 0, 0, 2);
        });
        Edges.edge("27: that MONTH and THING of all, the last one, too", () -> {
            for (int place = 0; place < 24; place++) {
                WorkedBack x = new WorkedBack();
                for (int m = 0; m < 8; m++) x.month(0, 0, 0, 0, 0, 0);
                int month = place / 3;
                int thing = place % 3;
                for (int t = 0; t < 3; t++) x.stock(t, Edges.HOLDS, t == thing ? 0 : 199);
                x.change(month, thing, 1);
                x.change(month, Edges.GIVE, 1);
                x.change(month, 4, 1);
                for (int t = 0; t < 3; t++) {
                    if (t != thing) x.stock(t, Edges.MOST, 99);
                }
                Edges.due("0 to 2 of it", x.all(-1), 3 * 25 * 125);
                settles("place " + place, x, month, thing, 25 * 125);
            }
        });
        Edges.edge("27: OUTSIDE: what is 0 to 2; STATE: no MONTHS; NO: none FITS; in this order", () -> {
            WorkedBack x = new WorkedBack();
            Edges.due("3", x.settle(3), Edges.OUTSIDE);
            Edges.due("-1", x.settle(-1), Edges.OUTSIDE);
            for (int what = 0; what < 3; what++) Edges.due("no MONTHS", x.settle(what), Edges.STATE);
            Edges.rule(x, "pa=5");
            Edges.due("STATE ahead of NO", x.settle(0), Edges.STATE);
            Edges.due("OUTSIDE ahead of STATE", x.settle(3), Edges.OUTSIDE);
            x.month(0, 0, 0, 0, 0, 0);
            for (int what = 0; what < 3; what++) Edges.due("none FITS", x.settle(what), Edges.NO);
            Edges.due("OUTSIDE ahead of NO", x.settle(3), Edges.OUTSIDE);
            x.free();
            Edges.due("now", x.settle(2), 15625);
        });
    }

    private static void hides(WorkedBack x, int purse, int month, int thing, int more, int many) {
        Edges.due("PURSE " + purse + ": the MONTH", x.hide(purse, 0), month);
        Edges.due("PURSE " + purse + ": the THING", x.hide(purse, 1), thing);
        Edges.due("PURSE " + purse + ": how many more", x.hide(purse, 2), more);
        Edges.due("PURSE " + purse + ": MIXTURES then", x.hide(purse, 3), many);
    }

    /** One MONTH that fails for want of so many of a; of b and c each one more would be one too many. */
    private static WorkedBack wanting(int many, int price) {
        WorkedBack x = Edges.strict();
        Edges.rule(x, "pa=1&pb+pc+qa+qb+qc=0");
        x.month(0, 0, 0, 0, many, 0);
        for (int t = 0; t < 3; t++) x.change(0, Edges.PRICE + t, price);
        return x;
    }

    private static void hidden() {
        Edges.edge("28: 1 to 9 more of it: each of them, not ten", () -> {
            for (int more = 1; more <= 9; more++) hides(wanting(more, 1), 999, 0, 0, more, 1);
            hides(wanting(10, 1), 999, 0, 0, 1, 0);
        });
        Edges.edge("28: not none more, where all FIT as it is", () -> {
            WorkedBack x = wanting(0, 1);
            Edges.due("it FITS", x.all(-1), 1);
            hides(x, 999, 0, 0, 1, 0);
        });
        Edges.edge("28: no more than a PURSE: as much as it, one less, one more", () -> {
            WorkedBack x = wanting(3, 7);
            hides(x, 21, 0, 0, 3, 1);
            hides(x, 22, 0, 0, 3, 1);
            hides(x, 20, 0, 0, 1, 0);
            hides(x, 7, 0, 0, 1, 0);
            for (int what = 0; what < 4; what++) Edges.due("not for any", x.hide(6, what), Edges.NO);
        });
        Edges.edge("28: 9 times 99 are 891, PURSE 999 at most", () -> {
            WorkedBack x = wanting(9, 99);
            hides(x, 999, 0, 0, 9, 1);
            hides(x, 891, 0, 0, 9, 1);
            hides(x, 890, 0, 0, 1, 0);
            hides(x, 99, 0, 0, 1, 0);
            Edges.due("98", x.hide(98, 0), Edges.NO);
        });
        Edges.edge("28: a PURSE of 0 does for what costs 0", () -> {
            WorkedBack x = wanting(9, 0);
            hides(x, 0, 0, 0, 9, 1);
            for (int t = 0; t < 3; t++) x.change(0, Edges.PRICE + t, 1);
            Edges.due("nothing costs 0", x.hide(0, 0), Edges.NO);
            x.change(0, Edges.PRICE + 2, 0);
            hides(x, 0, 0, 2, 1, 0);
        });
        Edges.edge("28: that MONTH's PRICES", () -> {
            WorkedBack x = new WorkedBack();
            x.month(0, 0, 0, 0, 0, 0);
            x.month(0, 0, 0, 0, 0, 0);
            for (int t = 0; t < 3; t++) {
                x.change(0, Edges.PRICE + t, 50);
                x.change(1, Edges.PRICE + t, 40 - t);
            }
            hides(x, 999, 1, 2, 1, 15625);
            hides(x, 38, 1, 2, 1, 15625);
            Edges.due("37", x.hide(37, 0), Edges.NO);
        });
        Edges.edge("28: those by which the most MIXTURES FIT, at whatever cost", () -> {
            WorkedBack x = wanting(4, 10);
            Edges.rule(x, "pb+pc+qa+qb+qc=0&pa=1|pb+pc+qb+qc=0&pa=2");
            hides(x, 999, 0, 0, 8, 5);
            hides(x, 80, 0, 0, 8, 5);
            hides(x, 79, 0, 0, 4, 1);
            hides(x, 39, 0, 0, 1, 0);
        });
        Edges.edge("28: of several the least cost", () -> {
            WorkedBack x = new WorkedBack();
            x.month(0, 0, 0, 0, 0, 0);
            x.month(0, 0, 0, 0, 0, 0);
            int[] prices = {9, 8, 7, 6, 5, 4};
            for (int i = 0; i < 6; i++) x.change(i / 3, Edges.PRICE + i % 3, prices[i]);
            hides(x, 999, 1, 2, 1, 15625);
            x.change(0, Edges.PRICE + 1, 3);
            hides(x, 999, 0, 1, 1, 15625);
        });
        Edges.edge("28: then the first MONTH", () -> {
            WorkedBack x = new WorkedBack();
            x.month(0, 0, 0, 0, 0, 0);
            x.month(0, 0, 0, 0, 0, 0);
            for (int i = 0; i < 6; i++) x.change(i / 3, Edges.PRICE + i % 3, 9);
            x.change(0, Edges.PRICE + 2, 5);
            x.change(1, Edges.PRICE, 5);
            hides(x, 999, 0, 2, 1, 15625);
        });
        Edges.edge("28: then the first THING", () -> {
            WorkedBack x = new WorkedBack();
            x.month(0, 0, 0, 0, 0, 0);
            for (int t = 0; t < 3; t++) x.change(0, Edges.PRICE + t, t == 0 ? 9 : 5);
            hides(x, 999, 0, 1, 1, 15625);
        });
        Edges.edge("28: then the fewest more", () -> {
            WorkedBack x = new WorkedBack();
            x.month(0, 0, 0, 0, 0, 0);
            hides(x, 0, 0, 0, 1, 15625);
            WorkedBack y = wanting(4, 0);
            y.stock(0, Edges.HOLDS, 3);
            hides(y, 0, 0, 0, 4, 1);
        });
        Edges.edge("28: the same cost by more of a cheaper THING: the first MONTH and THING tell", () -> {
            WorkedBack x = Edges.strict();
            Edges.rule(x, "pa=1&pb=0&pc+qa+qb+qc=0|pa=0&pb=1&pc+qa+qb+qc=0");
            x.month(0, 3, 0, 0, 3, 0);
            x.month(2, 0, 0, 0, 2, 0);
            for (int i = 0; i < 6; i++) x.change(i / 3, Edges.PRICE + i % 3, 1);
            Edges.due("a alone or b alone", x.all(-1), 0);
            hides(x, 999, 0, 0, 1, 0);
            x.stock(1, Edges.HOLDS, 9);
            hides(x, 999, 0, 0, 3, 1);
            x.stock(0, Edges.HOLDS, 9);
            x.change(1, Edges.PRICE + 1, 0);
            hides(x, 999, 1, 1, 2, 1);
        });
        Edges.edge("28: an IN may come above 99 so", () -> {
            WorkedBack x = Edges.strict();
            Edges.rule(x, "pa=4&qa=4&pb+pc+qb+qc=0");
            x.month(99, 0, 0, 0, 20, 7);
            for (int t = 0; t < 3; t++) x.change(0, Edges.PRICE + t, 1);
            hides(x, 999, 0, 0, 9, 1);
        });
        Edges.edge("28: GIVE stays: 0 at least, and more", () -> {
            WorkedBack x = wanting(9, 1);
            x.change(0, Edges.GIVE, 2);
            hides(x, 999, 0, 0, 7, 1);
            x.change(0, 4, 11);
            hides(x, 999, 0, 0, 9, 1);
            x.change(0, 4, 12);
            hides(x, 999, 0, 0, 1, 0);
        });
        Edges.edge("28: GIVE stays: so many less", () -> {
            WorkedBack x = wanting(4, 1);
            x.change(0, 0, 5);
            x.change(0, Edges.GIVE, 2);
            Edges.due("3 to 7", x.all(-1), 1);
            hides(x, 999, 0, 0, 1, 1);
            x.change(0, 0, 6);
            Edges.due("4 to 8", x.all(-1), 1);
            hides(x, 999, 0, 1, 1, 1);
        });
        Edges.edge("28: LOST in that MONTH, and in those behind it", () -> {
            WorkedBack x = wanting(4, 1);
            x.change(0, 0, 4);
            hides(x, 999, 0, 0, 1, 0);
            x.stock(0, Edges.LOST, 1);
            hides(x, 999, 0, 0, 1, 1);
            x.stock(0, Edges.HOLDS, 9);
            x.month(0, 0, 0, 0, 0, 0);
            for (int t = 0; t < 3; t++) x.change(1, Edges.PRICE + t, 9);
            hides(x, 999, 0, 0, 1, 1);
        });
        Edges.edge("28: OUTSIDE: PURSE 0 to 999, what 0 to 3; STATE: no MONTHS; NO; in this order", () -> {
            WorkedBack x = new WorkedBack();
            Edges.due("1000", x.hide(1000, 0), Edges.OUTSIDE);
            Edges.due("-1", x.hide(-1, 0), Edges.OUTSIDE);
            Edges.due("what 4", x.hide(0, 4), Edges.OUTSIDE);
            Edges.due("what -1", x.hide(0, -1), Edges.OUTSIDE);
            Edges.due("no MONTHS, 0", x.hide(0, 0), Edges.STATE);
            Edges.due("no MONTHS, 999", x.hide(999, 3), Edges.STATE);
            x.month(0, 0, 0, 0, 0, 0);
            for (int t = 0; t < 3; t++) x.change(0, Edges.PRICE + t, 1);
            Edges.due("1000", x.hide(1000, 0), Edges.OUTSIDE);
            Edges.due("OUTSIDE ahead of NO", x.hide(0, 4), Edges.OUTSIDE);
            Edges.due("NO", x.hide(0, 3), Edges.NO);
            Edges.due("999", x.hide(999, 3), 15625);
        });
        Edges.edge("28: none FITS is no NO: the cheapest then", () -> {
            WorkedBack x = new WorkedBack();
            Edges.rule(x, "pa=5");
            x.month(0, 0, 0, 0, 0, 0);
            hides(x, 0, 0, 0, 1, 0);
        });
    }

    private static void images() {
        Edges.edge("29, 30: OUTSIDE: IMAGES are 0 and 1", () -> {
            WorkedBack x = new WorkedBack();
            Edges.due("image 2", x.image(2), Edges.OUTSIDE);
            Edges.due("image -1", x.image(-1), Edges.OUTSIDE);
            Edges.due("image 0", x.image(0), 1);
            Edges.due("image 1", x.image(1), 1);
            Edges.due("restore 2", x.restore(2), Edges.OUTSIDE);
            Edges.due("restore -1", x.restore(-1), Edges.OUTSIDE);
            Edges.due("restore 0", x.restore(0), 1);
            Edges.due("restore 1", x.restore(1), 1);
        });
        Edges.edge("30: STATE: it was not kept; the other one tells nothing of it", () -> {
            for (int n = 0; n < 2; n++) {
                WorkedBack x = new WorkedBack();
                Edges.due("none yet", x.restore(n), Edges.STATE);
                x.image(1 - n);
                x.month(1, 2, 3, 4, 5, 6);
                Edges.due("the other one", x.restore(n), Edges.STATE);
                Edges.due("refused changes nothing", x.told(0), 1);
                x.image(n);
                Edges.due("now", x.restore(n), 1);
            }
        });
        Edges.edge("29: MONTHS are kept: none, eight", () -> {
            WorkedBack x = new WorkedBack();
            x.image(0);
            for (int m = 0; m < 8; m++) {
                x.month(m, m + 1, m + 2, m % 6, m + 4, m + 5);
                for (int t = 0; t < 3; t++) x.change(m, Edges.PRICE + t, 90 + m - t);
            }
            x.image(1);
            x.restore(0);
            Edges.due("none", x.told(0), 0);
            x.month(99, 99, 99, 5, 20, 20);
            x.restore(1);
            Edges.due("eight", x.told(0), 8);
            for (int m = 0; m < 8; m++) {
                int[] want = {m, m + 1, m + 2, m % 6, m + 4, m + 5, 90 + m, 89 + m, 88 + m};
                for (int what = 0; what < 9; what++) Edges.due(m + " " + what, x.about(m, what), want[what]);
            }
            Edges.due("full again", x.month(0, 0, 0, 0, 0, 0), Edges.FULL);
        });
        Edges.edge("29: STOCKS are kept", () -> {
            WorkedBack x = new WorkedBack();
            x.image(0);
            for (int i = 0; i < 12; i++) {
                int what = new int[] {1, 0, 2, 3}[i % 4];
                x.stock(i / 4, what, new int[] {40, 60, 100, 2}[what] + i / 4);
            }
            x.image(1);
            x.restore(0);
            for (int i = 0; i < 12; i++) Edges.due("told " + i, x.told(10 + i), i % 4 == 2 ? 199 : 0);
            x.restore(1);
            for (int i = 0; i < 12; i++) {
                Edges.due("told " + i, x.told(10 + i), new int[] {40, 60, 100, 2}[i % 4] + i / 4);
            }
        });
        Edges.edge("29: STAND is kept, and that there is none", () -> {
            WorkedBack x = new WorkedBack();
            x.image(0);
            x.stand(2, 1);
            x.image(1);
            x.restore(0);
            Edges.due("none", x.told(3), Edges.NONE);
            x.stand(0, 1);
            x.restore(1);
            Edges.due("c for b", x.told(3), 21);
        });
        Edges.edge("29: the RULE is kept, and that there is none", () -> {
            WorkedBack x = new WorkedBack();
            x.image(0);
            Edges.rule(x, "pa=1|pa=2");
            x.image(1);
            x.restore(0);
            Edges.due("no BOTHS", x.told(2), 0);
            Edges.due("all", x.all(-1), 15625);
            Edges.rule(x, "pa=5");
            x.restore(1);
            Edges.due("BOTHS", x.told(2), 2);
            Edges.due("all", x.all(-1), 6250);
            Edges.due("free", x.free(), 2);
            x.restore(1);
            Edges.due("again", x.all(-1), 6250);
        });
        Edges.edge("29: signs are not in it: they stay as they are", () -> {
            WorkedBack x = new WorkedBack();
            Edges.say(x, "pa");
            x.image(0);
            Edges.due("image leaves them", x.told(1), 2);
            Edges.say(x, "=1");
            x.restore(0);
            Edges.due("restore leaves them", x.told(1), 4);
            Edges.due("they are right", x.rule(), 1);
        });
        Edges.edge("29: what is kept later comes in the place of what was", () -> {
            WorkedBack x = new WorkedBack();
            x.month(1, 0, 0, 0, 0, 0);
            x.image(0);
            x.change(0, 0, 2);
            x.image(0);
            x.change(0, 0, 3);
            x.restore(0);
            Edges.due("the later one", x.about(0, 0), 2);
        });
        Edges.edge("30: an IMAGE stays as it was, whatever comes later", () -> {
            WorkedBack x = new WorkedBack();
            x.month(1, 0, 0, 0, 0, 0);
            x.image(1);
            for (int i = 0; i < 3; i++) {
                x.change(0, 0, 50 + i);
                x.stock(0, Edges.HOLDS, i);
                x.stand(0, 1);
                Edges.rule(x, "pa=" + i);
                x.month(0, 0, 0, 0, 0, 0);
                Edges.due("restore", x.restore(1), 1);
                Edges.due("MONTHS", x.told(0), 1);
                Edges.due("an IN", x.about(0, 0), 1);
                Edges.due("HOLDS", x.told(12), 199);
                Edges.due("STAND", x.told(3), Edges.NONE);
                Edges.due("the RULE", x.told(2), 0);
                Edges.due("all", x.all(-1), 15625);
            }
        });
        Edges.edge("30: IMAGES are no part of an IMAGE", () -> {
            WorkedBack x = new WorkedBack();
            x.image(0);
            x.month(1, 0, 0, 0, 0, 0);
            x.image(1);
            x.restore(0);
            Edges.due("the other one is still kept", x.restore(1), 1);
            Edges.due("MONTHS", x.told(0), 1);
        });
    }

    private static void telling() {
        Edges.edge("31: OUTSIDE: what is 0 to 3, 10 to 21", () -> {
            WorkedBack x = new WorkedBack();
            int[] bad = {-1, 4, 5, 8, 9, 22, 23};
            for (int what : bad) Edges.due("told " + what, x.told(what), Edges.OUTSIDE);
            Edges.due("10", x.told(10), 0);
            Edges.due("21", x.told(21), 0);
        });
        Edges.edge("31: MONTHS: 0 to 8", () -> {
            WorkedBack x = new WorkedBack();
            for (int m = 0; m <= 8; m++) {
                Edges.due("MONTHS", x.told(0), m);
                x.month(0, 0, 0, 0, 0, 0);
            }
            Edges.due("MONTHS", x.told(0), 8);
        });
        Edges.edge("31: signs: 0 to 50", () -> {
            WorkedBack x = new WorkedBack();
            for (int i = 0; i <= 50; i++) {
                Edges.due("signs", x.told(1), i);
                x.say('~');
            }
            Edges.due("signs", x.told(1), 50);
        });
        Edges.edge("31: BOTHS: of the RULE, not of the signs", () -> {
            WorkedBack x = new WorkedBack();
            Edges.say(x, "pa=1|pa=2|pa=3");
            Edges.due("none yet", x.told(2), 0);
            x.rule();
            Edges.due("three", x.told(2), 3);
            Edges.say(x, "pa=1");
            Edges.due("still three", x.told(2), 3);
        });
        Edges.edge("31: STAND, as stand() tells it; NONE", () -> {
            WorkedBack x = new WorkedBack();
            Edges.due("none", x.told(3), Edges.NONE);
            x.stand(0, 1);
            Edges.due("a for b", x.told(3), 1);
            x.stand(2, 0);
            Edges.due("c for a", x.told(3), 20);
        });
        Edges.edge("31: 10 to 13, 14 to 17, 18 to 21: what stock() tells of THINGS 0, 1, 2", () -> {
            for (int i = 0; i < 12; i++) {
                WorkedBack x = new WorkedBack();
                if (i % 4 == 0) x.stock(i / 4, Edges.MOST, 3);
                x.stock(i / 4, i % 4, 2);
                Edges.due("told " + (10 + i), x.told(10 + i), 2);
            }
        });
    }

    private static void asking() {
        Edges.edge("what is asked does not change what is answered later", () -> {
            WorkedBack x = Edges.strict();
            x.month(0, 0, 0, 0, 1, 0);
            x.month(5, 0, 0, 0, 0, 1);
            for (int m = 0; m < 2; m++) {
                for (int t = 0; t < 3; t++) x.change(m, Edges.PRICE + t, 1);
            }
            for (int twice = 0; twice < 2; twice++) {
                Edges.due("NEAR", x.near(0), 1);
                Edges.due("NEAR", x.near(1), Edges.only(0, 0, 4));
                Edges.due("DOUBT", x.doubt(0), 2);
                Edges.due("DOUBT", x.doubt(1), 0);
                notChanged("5 of a in q", x, Edges.NO);
                hides(x, 999, 0, 0, 1, 0);
                Edges.due("all", x.all(-1), 0);
                x.change(1, 0, 4);
                Edges.due("4 of a in q", x.all(-1), 1);
                x.change(1, 0, 5);
            }
            Edges.due("DOUBT", x.doubt(0), 2);
            hides(x, 999, 0, 0, 1, 0);
            Edges.due("all", x.all(-1), 0);
        });
    }

    private static void manyCalls() {
        Edges.edge("an object is used for at most 512 calls: the 512th is as due", () -> {
            WorkedBack x = Edges.strict();
            int calls = 3;
            x.month(0, 0, 0, 0, 1, 0);
            calls++;
            while (calls < 510) {
                x.change(0, 0, calls % 5);
                calls++;
                Edges.due("call " + calls, x.all(0), Edges.only(0, (calls - 1) % 5, 0));
                calls++;
            }
            x.change(0, 0, 3);
            calls++;
            calls++;
            Edges.due("call " + calls, x.settle(2), 125);
        });
    }

    public static void main(String[] args) {
        changing();
        costing();
        buying();
        settling();
        hidden();
        images();
        telling();
        asking();
        manyCalls();
        Edges.end("changes, costs, what to do");
    }
}
