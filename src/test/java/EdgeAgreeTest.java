/** Edges of what agrees: section 3 of the Terms, promises 14 to 22. */
public final class EdgeAgreeTest {
    private static void needing() {
        Edges.edge("14: NEEDS: of each WARE OUT times how much of it: none, the most", () -> {
            WorkedBack x = new WorkedBack();
            x.month(0, 0, 0, 0, 0, 0);
            x.month(0, 0, 0, 0, 20, 20);
            x.month(0, 0, 0, 0, 20, 0);
            x.month(0, 0, 0, 0, 0, 20);
            int[] want = {0, 160, 80, 80};
            for (int m = 0; m < 4; m++) {
                for (int t = 0; t < 3; t++) {
                    Edges.due("the last MIXTURE", x.needs(15624, m, t), want[m]);
                    Edges.due("the first MIXTURE", x.needs(0, m, t), 0);
                }
            }
        });
        Edges.edge("14: the most of two THINGS, where one stands in", () -> {
            WorkedBack x = new WorkedBack();
            x.month(0, 0, 0, 0, 20, 20);
            x.change(0, Edges.PRICE + 1, 1);
            x.stand(2, 1);
            Edges.due("c", x.needs(15624, 0, 2), 320);
            Edges.due("b", x.needs(15624, 0, 1), 0);
            Edges.due("a", x.needs(15624, 0, 0), 160);
        });
        Edges.edge("14: UNKNOWN: MIXTURE, MONTH, THING", () -> {
            WorkedBack x = new WorkedBack();
            Edges.due("no MONTHS", x.needs(0, 0, 0), Edges.UNKNOWN);
            x.month(0, 0, 0, 0, 1, 1);
            Edges.due("the last of all", x.needs(15624, 0, 2), 8);
            Edges.due("MIXTURE", x.needs(15625, 0, 2), Edges.UNKNOWN);
            Edges.due("MIXTURE", x.needs(-1, 0, 2), Edges.UNKNOWN);
            Edges.due("MONTH", x.needs(15624, 1, 2), Edges.UNKNOWN);
            Edges.due("MONTH", x.needs(15624, -1, 2), Edges.UNKNOWN);
            Edges.due("THING", x.needs(15624, 0, 3), Edges.UNKNOWN);
            Edges.due("THING", x.needs(15624, 0, -1), Edges.UNKNOWN);
        });
    }

    private static void judged(String what, WorkedBack x, int mixture, int month, int thing) {
        Edges.due(what + ": MONTH", x.judge(mixture, 0), month);
        Edges.due(what + ": THING", x.judge(mixture, 1), thing);
    }

    private static void judging() {
        Edges.edge("15: NONE: it AGREES, with no MONTHS, too", () -> {
            WorkedBack x = Edges.strict();
            judged("no MONTHS", x, 15624, Edges.NONE, Edges.NONE);
            x.month(1, 1, 1, 0, 1, 0);
            judged("one", x, Edges.mix(1, 1, 1, 4, 4, 4), Edges.NONE, Edges.NONE);
        });
        for (int i = 0; i < 24; i++) {
            int month = i / 3;
            int thing = i % 3;
            Edges.edge("15: the MONTH and the THING: " + month + ", " + thing, () -> {
                WorkedBack x = Edges.strict();
                for (int m = 0; m < 8; m++) x.month(1, 1, 1, 0, 1, 0);
                x.change(month, thing, 2);
                judged("too much", x, Edges.mix(1, 1, 1, 0, 0, 0), month, thing);
                x.change(month, thing, 0);
                judged("too little", x, Edges.mix(1, 1, 1, 0, 0, 0), month, thing);
            });
        }
        Edges.edge("15: the first MONTH comes ahead of the first THING", () -> {
            WorkedBack x = Edges.strict();
            x.month(0, 0, 1, 0, 1, 0);
            x.month(1, 1, 0, 0, 1, 0);
            judged("c in MONTH 0, a and b in MONTH 1", x, 0, 0, 2);
            x.change(0, 2, 0);
            judged("a in MONTH 1", x, 0, 1, 0);
            x.change(1, 0, 0);
            judged("b in MONTH 1", x, 0, 1, 1);
        });
        Edges.edge("15: of a MONTH the first THING", () -> {
            WorkedBack x = Edges.strict();
            x.month(1, 1, 1, 0, 0, 0);
            judged("a", x, 0, 0, 0);
            x.change(0, 0, 0);
            judged("b", x, 0, 0, 1);
            x.change(0, 1, 0);
            judged("c", x, 0, 0, 2);
            x.change(0, 2, 0);
            judged("none", x, 0, Edges.NONE, Edges.NONE);
        });
        Edges.edge("15: its STOCK would have to be outside, whatever came ahead of it", () -> {
            WorkedBack x = Edges.strict();
            x.stock(0, Edges.HOLDS, 4);
            x.stock(0, Edges.MOST, 2);
            x.month(1, 0, 0, 1, 0, 0);
            x.month(0, 0, 0, 0, 1, 0);
            judged("up to 4 may have been there", x, Edges.only(0, 4, 0), Edges.NONE, Edges.NONE);
            x.stock(0, Edges.MOST, 1);
            judged("up to 3", x, Edges.only(0, 4, 0), 1, 0);
            judged("3 do", x, Edges.only(0, 3, 0), Edges.NONE, Edges.NONE);
            x.change(1, 0, 4);
            judged("none need have been there", x, 0, Edges.NONE, Edges.NONE);
            x.change(1, 0, 5);
            judged("5 are too much, whatever was there", x, 0, 1, 0);
        });
        Edges.edge("15: the RULE is not asked", () -> {
            WorkedBack x = Edges.strict();
            x.month(1, 0, 0, 0, 1, 0);
            Edges.rule(x, "pa=9");
            judged("it AGREES", x, Edges.only(0, 1, 0), Edges.NONE, Edges.NONE);
        });
        Edges.edge("15: UNKNOWN: MIXTURE; OUTSIDE: what is 0 or 1; in this order", () -> {
            WorkedBack x = new WorkedBack();
            Edges.due("15624", x.judge(15624, 1), Edges.NONE);
            Edges.due("15625", x.judge(15625, 1), Edges.UNKNOWN);
            Edges.due("-1", x.judge(-1, 0), Edges.UNKNOWN);
            Edges.due("what 2", x.judge(0, 2), Edges.OUTSIDE);
            Edges.due("what -1", x.judge(0, -1), Edges.OUTSIDE);
            Edges.due("both", x.judge(15625, 2), Edges.UNKNOWN);
        });
    }

    private static void lies(String what, WorkedBack x, int mixture, int month, int least, int most) {
        Edges.due(what + ": the least", x.lies(mixture, 0, month, 0), least);
        Edges.due(what + ": the most", x.lies(mixture, 0, month, 1), most);
    }

    private static void lying() {
        Edges.edge("16: the least, the most that it can be", () -> {
            WorkedBack x = new WorkedBack();
            x.stock(0, Edges.MOST, 6);
            x.stock(0, Edges.LEAST, 4);
            x.stock(0, Edges.LOST, 2);
            x.month(3, 0, 0, 2, 1, 0);
            lies("4 + 1 - 1 - 2, 6 + 5 - 1", x, Edges.only(0, 1, 0), 0, 2, 10);
            x.stock(0, Edges.HOLDS, 9);
            lies("no more than HOLDS", x, Edges.only(0, 1, 0), 0, 2, 9);
            x.stock(0, Edges.HOLDS, 2);
            lies("the least is the most", x, Edges.only(0, 1, 0), 0, 2, 2);
            x.stock(0, Edges.HOLDS, 1);
            lies("it does not go on", x, Edges.only(0, 1, 0), 0, Edges.NO, Edges.NO);
        });
        Edges.edge("16: never below 0, however much is lost", () -> {
            WorkedBack x = new WorkedBack();
            x.stock(0, Edges.LOST, 5);
            x.month(5, 0, 0, 0, 1, 0);
            lies("5 may be gone", x, 0, 0, 0, 5);
            x.change(0, 0, 6);
            lies("1 stays", x, 0, 0, 1, 6);
            lies("4 are NEEDED", x, Edges.only(0, 4, 0), 0, 0, 2);
        });
        Edges.edge("16: looking at MONTHS till that one alone", () -> {
            WorkedBack x = new WorkedBack();
            x.month(3, 0, 0, 3, 0, 0);
            x.month(0, 0, 0, 0, 1, 0);
            lies("MONTH 1 NEEDS 4 of it, but it is not looked at", x, Edges.only(0, 4, 0), 0, 0, 6);
            lies("MONTH 1", x, Edges.only(0, 4, 0), 1, 0, 2);
        });
        Edges.edge("16: what was outside in a MONTH does not come back", () -> {
            WorkedBack x = Edges.strict();
            x.stock(0, Edges.HOLDS, 3);
            x.month(3, 0, 0, 3, 0, 0);
            x.month(0, 0, 0, 0, 1, 0);
            lies("0 to 3", x, Edges.only(0, 2, 0), 0, 0, 3);
            lies("2 or 3 were there", x, Edges.only(0, 2, 0), 1, 0, 1);
        });
        Edges.edge("16: NO: it does not go on till there: that MONTH and all behind it, none ahead of it", () -> {
            WorkedBack x = new WorkedBack();
            for (int m = 0; m < 8; m++) x.month(m == 3 ? 0 : 2, 0, 0, 0, 2, 0);
            for (int m = 0; m < 8; m++) {
                int due = m < 3 ? 0 : Edges.NO;
                lies("MONTH " + m, x, Edges.only(0, 1, 0), m, due, due);
            }
        });
        Edges.edge("16: NO: too much, too", () -> {
            WorkedBack x = Edges.strict();
            x.month(1, 0, 0, 0, 1, 0);
            lies("1 would stay", x, 0, 0, Edges.NO, Edges.NO);
        });
        Edges.edge("16: by a MIXTURE that AGREES with that THING: others and the RULE are not asked", () -> {
            WorkedBack x = new WorkedBack();
            x.month(2, 0, 0, 0, 1, 0);
            Edges.rule(x, "pa=9");
            lies("b is missing", x, Edges.mix(1, 4, 0, 0, 0, 0), 0, 1, 1);
            Edges.due("b", x.lies(Edges.mix(1, 4, 0, 0, 0, 0), 1, 0, 0), Edges.NO);
        });
        Edges.edge("16: UNKNOWN: MIXTURE, THING, MONTH; OUTSIDE: end is 0 or 1; ahead of NO", () -> {
            WorkedBack x = new WorkedBack();
            Edges.due("no MONTHS", x.lies(0, 0, 0, 0), Edges.UNKNOWN);
            x.month(1, 1, 1, 0, 1, 1);
            Edges.due("MIXTURE", x.lies(15625, 0, 0, 0), Edges.UNKNOWN);
            Edges.due("MIXTURE", x.lies(-1, 0, 0, 0), Edges.UNKNOWN);
            Edges.due("THING", x.lies(0, 3, 0, 0), Edges.UNKNOWN);
            Edges.due("THING", x.lies(0, -1, 0, 0), Edges.UNKNOWN);
            Edges.due("MONTH", x.lies(0, 0, 1, 0), Edges.UNKNOWN);
            Edges.due("MONTH", x.lies(0, 0, -1, 0), Edges.UNKNOWN);
            Edges.due("end", x.lies(0, 0, 0, 2), Edges.OUTSIDE);
            Edges.due("end", x.lies(0, 0, 0, -1), Edges.OUTSIDE);
            Edges.due("UNKNOWN first", x.lies(0, 0, 1, 2), Edges.UNKNOWN);
            Edges.due("it does not go on", x.lies(15624, 0, 0, 0), Edges.NO);
            Edges.due("OUTSIDE ahead of NO", x.lies(15624, 0, 0, 2), Edges.OUTSIDE);
        });
    }

    private static void allThatFit() {
        Edges.edge("17: how many (i = -1), the i-th from 0 on; NONE", () -> {
            WorkedBack x = Edges.strict();
            x.month(6, 4, 0, 0, 2, 0);
            Edges.due("how many", x.all(-1), 125);
            Edges.due("the first", x.all(0), Edges.mix(3, 2, 0, 0, 0, 0));
            Edges.due("the last", x.all(124), Edges.mix(3, 2, 0, 4, 4, 4));
            Edges.due("behind the last", x.all(125), Edges.NONE);
        });
        Edges.edge("17: all of them, one of them, none", () -> {
            WorkedBack x = new WorkedBack();
            Edges.due("all", x.all(-1), 15625);
            Edges.due("the last", x.all(15624), 15624);
            Edges.due("behind it", x.all(15625), Edges.NONE);
            Edges.rule(x, "pa+pb+pc+qa+qb+qc=24");
            Edges.due("one", x.all(-1), 1);
            Edges.due("it", x.all(0), 15624);
            Edges.due("no second", x.all(1), Edges.NONE);
            Edges.rule(x, "pa=5");
            Edges.due("none", x.all(-1), 0);
            Edges.due("no first", x.all(0), Edges.NONE);
        });
        Edges.edge("17: by their numbers, whatever i is", () -> {
            WorkedBack x = new WorkedBack();
            Edges.rule(x, "pa+pb+pc+qa+qb+qc=1");
            int[] want = {1, 5, 25, 125, 625, 3125, Edges.NONE};
            for (int i = 0; i < 7; i++) Edges.due("the " + i + "-th", x.all(i), want[i]);
            Edges.due("below -1", x.all(-2), Edges.NONE);
            Edges.due("far below", x.all(Integer.MIN_VALUE), Edges.NONE);
            Edges.due("far above", x.all(Integer.MAX_VALUE), Edges.NONE);
        });
        Edges.edge("17: the RULE and the MONTHS both tell", () -> {
            WorkedBack x = Edges.strict();
            x.month(2, 0, 0, 0, 1, 0);
            Edges.due("by the MONTH", x.all(-1), 125);
            Edges.rule(x, "pa=2|pa=3");
            Edges.due("the RULE takes none of them away", x.all(-1), 125);
            Edges.rule(x, "qa+qb+qc=0");
            Edges.due("one", x.all(-1), 1);
            Edges.rule(x, "pa=3");
            Edges.due("none", x.all(-1), 0);
        });
    }

    private static void ending() {
        for (int i = 0; i < 6; i++) {
            int ware = i / 3;
            int thing = i % 3;
            Edges.edge("18: the least and the most of THING " + thing + " in WARE " + ware, () -> {
                WorkedBack x = new WorkedBack();
                Edges.due("none", x.ends(ware, thing, 0), 0);
                Edges.due("4", x.ends(ware, thing, 1), 4);
                String term = "" + "pq".charAt(ware) + "abc".charAt(thing);
                Edges.rule(x, term + "=1|" + term + "=3");
                Edges.due("1", x.ends(ware, thing, 0), 1);
                Edges.due("3", x.ends(ware, thing, 1), 3);
                for (int other = 0; other < 6; other++) {
                    if (other == 3 * ware + thing) continue;
                    Edges.due("another", x.ends(other / 3, other % 3, 0), 0);
                    Edges.due("another", x.ends(other / 3, other % 3, 1), 4);
                }
            });
        }
        Edges.edge("18: UNKNOWN: WARE, THING; OUTSIDE: end is 0 or 1; NO: none FITS; in this order", () -> {
            WorkedBack x = new WorkedBack();
            Edges.due("WARE", x.ends(2, 0, 0), Edges.UNKNOWN);
            Edges.due("WARE", x.ends(-1, 0, 0), Edges.UNKNOWN);
            Edges.due("THING", x.ends(0, 3, 0), Edges.UNKNOWN);
            Edges.due("THING", x.ends(0, -1, 0), Edges.UNKNOWN);
            Edges.due("end", x.ends(0, 0, 2), Edges.OUTSIDE);
            Edges.due("end", x.ends(0, 0, -1), Edges.OUTSIDE);
            Edges.due("UNKNOWN first", x.ends(2, 0, 2), Edges.UNKNOWN);
            Edges.rule(x, "pa=5");
            Edges.due("none FITS", x.ends(1, 2, 0), Edges.NO);
            Edges.due("none FITS", x.ends(1, 2, 1), Edges.NO);
            Edges.due("OUTSIDE ahead of NO", x.ends(0, 0, 2), Edges.OUTSIDE);
            Edges.due("UNKNOWN ahead of NO", x.ends(2, 0, 0), Edges.UNKNOWN);
        });
        for (int i = 0; i < 6; i++) {
            int bit = 1 << i;
            String term = "" + "pq".charAt(i / 3) + "abc".charAt(i % 3);
            Edges.edge("19: bits: 3 times the WARE, and the THING: " + term, () -> {
                WorkedBack x = new WorkedBack();
                Edges.rule(x, term + ">0");
                Edges.due("MUST", x.must(0), bit);
                Edges.due("NEVER", x.must(1), 0);
                Edges.rule(x, term + "=0");
                Edges.due("MUST", x.must(0), 0);
                Edges.due("NEVER", x.must(1), bit);
                Edges.rule(x, term + "<2");
                Edges.due("neither: MUST", x.must(0), 0);
                Edges.due("neither: NEVER", x.must(1), 0);
            });
        }
        Edges.edge("19: all in all of them, all in none of them", () -> {
            WorkedBack x = new WorkedBack();
            Edges.rule(x, "pa+pb+pc+qa+qb+qc=24");
            Edges.due("MUST", x.must(0), 63);
            Edges.due("NEVER", x.must(1), 0);
            Edges.rule(x, "pa+pb+pc+qa+qb+qc=0");
            Edges.due("MUST", x.must(0), 0);
            Edges.due("NEVER", x.must(1), 63);
        });
        Edges.edge("19: OUTSIDE: what is 0 or 1; NO: none FITS; in this order", () -> {
            WorkedBack x = new WorkedBack();
            Edges.due("what", x.must(2), Edges.OUTSIDE);
            Edges.due("what", x.must(-1), Edges.OUTSIDE);
            Edges.rule(x, "pa=5");
            Edges.due("MUST", x.must(0), Edges.NO);
            Edges.due("NEVER", x.must(1), Edges.NO);
            Edges.due("OUTSIDE first", x.must(2), Edges.OUTSIDE);
        });
    }

    private static void everyPart() {
        for (int w = 0; w < 2; w++) {
            int ware = w;
            char sign = "pq".charAt(ware);
            Edges.edge("18, 19, 20: each of 125 ways to make " + sign, () -> {
                for (int part = 0; part < 125; part++) {
                    WorkedBack x = new WorkedBack();
                    int[] amounts = {part / 25, part / 5 % 5, part % 5};
                    Edges.rule(x, sign + "a=" + amounts[0] + "&" + sign + "b=" + amounts[1] + "&" + sign + "c=" + amounts[2]);
                    int must = 0;
                    for (int t = 0; t < 3; t++) {
                        Edges.due(part + ": the least", x.ends(ware, t, 0), amounts[t]);
                        Edges.due(part + ": the most", x.ends(ware, t, 1), amounts[t]);
                        must |= amounts[t] > 0 ? 1 << 3 * ware + t : 0;
                    }
                    Edges.due(part + ": MUST", x.must(0), must);
                    Edges.due(part + ": NEVER", x.must(1), (7 << 3 * ware) - must);
                    Edges.due(part + ": how many", x.all(-1), 125);
                    int first = ware == 0 ? part * 125 : part;
                    Edges.due(part + ": the first", x.all(0), first);
                    Edges.due(part + ": PLAIN", x.plain(0), first);
                    Edges.due(part + ": THINGS", x.plain(1), Integer.bitCount(must));
                    Edges.due(part + ": NEAR", x.near(1), first);
                    Edges.due(part + ": DOUBT", x.doubt(1), first);
                }
            });
        }
    }

    private static void plain(String rule, int mixture, int things) {
        Edges.edge("20: PLAIN by " + rule, () -> {
            WorkedBack x = new WorkedBack();
            Edges.rule(x, rule);
            Edges.due("the MIXTURE", x.plain(0), mixture);
            Edges.due("how many THINGS", x.plain(1), things);
        });
    }

    private static void plainest() {
        plain("pa<9", 0, 0);
        plain("pa>0&pb>0&pc>0&qa>0&qb>0&qc>0", Edges.mix(1, 1, 1, 1, 1, 1), 6);
        plain("qc>0", Edges.mix(0, 0, 0, 0, 0, 1), 1);
        plain("pa>0", Edges.mix(1, 0, 0, 0, 0, 0), 1);
        plain("pa>0&qa>0", Edges.mix(1, 0, 0, 1, 0, 0), 2);
        plain("pa+pb+pc+qa+qb+qc=4", Edges.mix(0, 0, 0, 0, 0, 4), 1);
        plain("pa+pb+pc+qa+qb+qc=5", Edges.mix(0, 0, 0, 0, 1, 4), 2);
        plain("pc=1&qa=1&qb=1|pa=4&qc=4", Edges.mix(4, 0, 0, 0, 0, 4), 2);
        plain("pa+pb+pc+qa+qb+qc=24", 15624, 6);
        Edges.edge("20: a THING in both WARES is counted twice", () -> {
            WorkedBack x = new WorkedBack();
            Edges.rule(x, "pa=1&qa=1&pb+pc+qb+qc=0|pb=1&pa+pc+qa+qb+qc=0");
            Edges.due("the later one", x.plain(0), Edges.mix(0, 1, 0, 0, 0, 0));
            Edges.due("one", x.plain(1), 1);
        });
        Edges.edge("20: OUTSIDE: what is 0 or 1; NO: none FITS; in this order", () -> {
            WorkedBack x = new WorkedBack();
            Edges.due("what", x.plain(2), Edges.OUTSIDE);
            Edges.due("what", x.plain(-1), Edges.OUTSIDE);
            Edges.rule(x, "pa=5");
            Edges.due("none FITS", x.plain(0), Edges.NO);
            Edges.due("none FITS", x.plain(1), Edges.NO);
            Edges.due("OUTSIDE first", x.plain(2), Edges.OUTSIDE);
        });
    }

    private static void near(String what, WorkedBack x, int by, int mixture) {
        Edges.due(what + ": the number", x.near(0), by);
        Edges.due(what + ": the MIXTURE", x.near(1), mixture);
    }

    private static void nearest() {
        Edges.edge("21: 0, where some FITS; the first of them", () -> {
            WorkedBack x = Edges.strict();
            near("no MONTHS", x, 0, 0);
            x.month(2, 0, 0, 0, 1, 0);
            near("pa is 2", x, 0, Edges.only(0, 2, 0));
        });
        Edges.edge("21: the least number by which one FITS, upward: 1, 99; none by 99", () -> {
            WorkedBack x = Edges.strict();
            Edges.rule(x, "pa=4&qa=1");
            x.month(98, 0, 0, 0, 20, 19);
            near("98 and 1", x, 1, Edges.only(0, 4, 1));
            x.change(0, 0, 0);
            near("0 and 99", x, 99, Edges.only(0, 4, 1));
            x.change(0, 5, 20);
            near("0 and 100", x, Edges.NO, Edges.NO);
            x.change(0, Edges.GIVE, 1);
            near("0, 1 and 99", x, 99, Edges.only(0, 4, 1));
            x.change(0, Edges.GIVE, 0);
            x.change(0, 0, 1);
            near("1 and 99", x, 99, Edges.only(0, 4, 1));
        });
        Edges.edge("21: the least number by which one FITS, downward: 1, 99", () -> {
            WorkedBack x = Edges.strict();
            x.month(1, 0, 0, 0, 0, 0);
            near("1 less", x, 1, 0);
            x.change(0, 0, 99);
            near("99 less", x, 99, 0);
            x.change(0, Edges.GIVE, 5);
            near("5 are given already", x, 94, 0);
        });
        Edges.edge("21: an IN is 0 at least here, too", () -> {
            WorkedBack x = Edges.strict();
            x.stock(0, Edges.MOST, 1);
            x.stock(0, Edges.LEAST, 1);
            x.month(0, 0, 0, 0, 0, 0);
            near("1 would have to go out", x, Edges.NO, Edges.NO);
            x.month(0, 0, 0, 0, 1, 0);
            near("it stays", x, Edges.NO, Edges.NO);
            x.stock(0, Edges.LOST, 1);
            near("it may be gone", x, 0, 0);
        });
        Edges.edge("21: all GIVES would have to be more: of all MONTHS and THINGS at once", () -> {
            WorkedBack x = Edges.strict();
            x.month(3, 9, 0, 1, 1, 0);
            x.month(6, 4, 7, 0, 1, 0);
            near("b: 9 less 1 and 4", x, 4, Edges.mix(2, 4, 3, 0, 0, 0));
            x.change(0, Edges.GIVE, 5);
            near("c: 7 less 4; it is 0 to 3 in MONTH 0", x, 3, Edges.mix(3, 1, 4, 0, 0, 0));
        });
        Edges.edge("21: the RULE must be kept; NO: none does by 99", () -> {
            WorkedBack x = Edges.strict();
            x.month(4, 0, 0, 0, 1, 0);
            Edges.rule(x, "pa=1|pa=2&qa=1");
            near("2 less", x, 2, Edges.only(0, 2, 1));
            Edges.rule(x, "pa=5");
            near("none keeps it", x, Edges.NO, Edges.NO);
            x.tear();
            near("nor with no MONTHS", x, Edges.NO, Edges.NO);
        });
        Edges.edge("21: MIXTURE 0 alone keeps the RULE: each THING tells", () -> {
            for (int t = 0; t < 3; t++) {
                WorkedBack x = Edges.strict();
                Edges.rule(x, "pa+pb+pc+qa+qb+qc=0");
                Edges.monthOf(x, t, 5, 0, 1, 1);
                near("5 less", x, 5, 0);
            }
        });
        Edges.edge("21: OUTSIDE: what is 0 or 1; ahead of NO", () -> {
            WorkedBack x = new WorkedBack();
            Edges.due("what", x.near(2), Edges.OUTSIDE);
            Edges.due("what", x.near(-1), Edges.OUTSIDE);
            Edges.rule(x, "pa=5");
            Edges.due("what", x.near(2), Edges.OUTSIDE);
            Edges.due("none", x.near(0), Edges.NO);
        });
    }

    private static void doubt(String what, WorkedBack x, int bits, int mixture) {
        Edges.due(what + ": MONTHS", x.doubt(0), bits);
        Edges.due(what + ": the MIXTURE", x.doubt(1), mixture);
    }

    /** MONTHS with so much of a and one p each. */
    private static WorkedBack byMonths(int... ins) {
        WorkedBack x = Edges.strict();
        for (int in : ins) x.month(in, 0, 0, 0, 1, 0);
        return x;
    }

    private static void doubted() {
        Edges.edge("22: none, where some FITS; the first of them", () -> {
            doubt("no MONTHS", new WorkedBack(), 0, 0);
            doubt("pa is 2", byMonths(2, 2), 0, Edges.only(0, 2, 0));
        });
        Edges.edge("22: one MONTH: each of eight", () -> {
            for (int month = 0; month < 8; month++) {
                WorkedBack x = byMonths(2, 2, 2, 2, 2, 2, 2, 2);
                x.change(month, 0, 3);
                doubt("MONTH " + month, x, 1 << month, Edges.only(0, 2, 0));
            }
        });
        Edges.edge("22: two MONTHS at most; NO: no two do", () -> {
            doubt("two", byMonths(1, 2, 2, 2, 2, 2, 2, 3), 129, Edges.only(0, 2, 0));
            doubt("three", byMonths(1, 2, 2, 2, 2, 2, 4, 3), Edges.NO, Edges.NO);
            doubt("two of two", byMonths(98, 99), 3, 0);
            doubt("one of one", byMonths(99), 1, 0);
            doubt("three of three", byMonths(97, 98, 99), Edges.NO, Edges.NO);
        });
        Edges.edge("22: the fewest MONTHS come ahead of the first as bits", () -> {
            WorkedBack x = byMonths(1, 1, 1, 1, 1, 1, 1, 2);
            for (int m = 2; m < 7; m++) x.change(m, Edges.GIVE, 1);
            doubt("MONTH 7, not MONTHS 0 and 1", x, 128, Edges.only(0, 1, 0));
        });
        Edges.edge("22: of several the first as bits: one MONTH", () ->
                doubt("MONTH 0 or 1", byMonths(1, 2), 1, Edges.only(0, 2, 0)));
        Edges.edge("22: of several the first as bits: two MONTHS", () -> {
            doubt("1 and 2 are 6, 0 and 3 are 9", byMonths(1, 2, 2, 1), 6, Edges.only(0, 1, 0));
            doubt("0 and 2 are 5, 1 and 3 are 10", byMonths(1, 2, 1, 2), 5, Edges.only(0, 2, 0));
            doubt("0 and 1 are 3", byMonths(1, 1, 2, 2), 3, Edges.only(0, 2, 0));
        });
        Edges.edge("22: any number from 0 on: 0, and far more than a MONTH can tell", () -> {
            WorkedBack x = byMonths(5);
            Edges.rule(x, "pa=0");
            doubt("0", x, 1, 0);
            x.change(0, 4, 20);
            x.change(0, 5, 20);
            Edges.rule(x, "pa=4&qa=4");
            doubt("160", x, 1, Edges.only(0, 4, 4));
            x.change(0, Edges.PRICE + 1, 1);
            x.stand(0, 1);
            Edges.rule(x, "pa=4&qa=4&pb=4&qb=4");
            doubt("320", x, 1, Edges.mix(4, 4, 0, 4, 4, 0));
        });
        Edges.edge("22: none less than 0", () -> {
            WorkedBack x = byMonths(0);
            x.stock(0, Edges.MOST, 1);
            x.stock(0, Edges.LEAST, 1);
            Edges.rule(x, "pa=0");
            doubt("1 would have to go out", x, Edges.NO, Edges.NO);
            x.free();
            doubt("1 is NEEDED", x, 0, Edges.only(0, 1, 0));
        });
        Edges.edge("22: each THING's IN: all three of a MONTH at once", () -> {
            WorkedBack x = Edges.strict();
            x.month(1, 1, 1, 0, 1, 0);
            x.month(9, 8, 7, 0, 1, 0);
            doubt("MONTH 1", x, 2, Edges.mix(1, 1, 1, 0, 0, 0));
            x.change(0, 0, 5);
            doubt("MONTHS 0 and 1", x, 3, 0);
        });
        Edges.edge("22: the other MONTHS' GIVES stay, HOLDS stays", () -> {
            WorkedBack x = byMonths(1, 3, 0);
            x.change(1, Edges.GIVE, 1);
            doubt("MONTHS 0 and 1 are 1 to 2, 2 to 4", x, 3, 0);
            x.change(2, 0, 2);
            doubt("MONTH 0", x, 1, Edges.only(0, 2, 0));
            x.change(0, Edges.GIVE, 1);
            doubt("none", x, 0, Edges.only(0, 2, 0));
        });
        Edges.edge("22: the RULE must be kept; NO, too, with no MONTHS", () -> {
            WorkedBack x = byMonths(1, 2);
            Edges.rule(x, "pa=1&qa=3");
            doubt("now MONTH 1", x, 2, Edges.only(0, 1, 3));
            Edges.rule(x, "pa=5");
            doubt("none keeps it", x, Edges.NO, Edges.NO);
            x.tear();
            x.tear();
            doubt("no MONTHS", x, Edges.NO, Edges.NO);
        });
        Edges.edge("22: OUTSIDE: what is 0 or 1; ahead of NO", () -> {
            WorkedBack x = new WorkedBack();
            Edges.due("what", x.doubt(2), Edges.OUTSIDE);
            Edges.due("what", x.doubt(-1), Edges.OUTSIDE);
            Edges.rule(x, "pa=5");
            Edges.due("what", x.doubt(2), Edges.OUTSIDE);
            Edges.due("none", x.doubt(0), Edges.NO);
        });
    }

    public static void main(String[] args) {
        needing();
        judging();
        lying();
        allThatFit();
        ending();
        everyPart();
        plainest();
        nearest();
        doubted();
        Edges.end("what agrees");
    }
}
