/** Edges of the book: section 1 of the Terms, promises 1 to 7. */
public final class EdgeBookTest {
    private static final int[] CELL_MOST = {99, 99, 99, 5, 20, 20, 99, 99, 99};
    private static final int[] STOCK_MOST = {99, 99, 199, 5};
    private static final int[] STOCK_FIRST = {0, 0, 199, 0};

    private static int monthWith(WorkedBack x, int place, int v) {
        int[] c = new int[6];
        c[place] = v;
        return x.month(c[0], c[1], c[2], c[3], c[4], c[5]);
    }

    private static void aNewObject() {
        Edges.edge("1: no MONTHS", () -> {
            WorkedBack x = new WorkedBack();
            Edges.due("told", x.told(0), 0);
            Edges.due("MONTH 0", x.about(0, 0), Edges.UNKNOWN);
        });
        Edges.edge("1: no RULE, and all MIXTURES keep none", () -> {
            WorkedBack x = new WorkedBack();
            Edges.due("told", x.told(2), 0);
            Edges.due("signs", x.told(1), 0);
            Edges.due("the first", x.fits(0, 0), 1);
            Edges.due("the last", x.fits(15624, 0), 1);
            Edges.due("all", x.all(-1), 15625);
        });
        Edges.edge("1: nothing stands in", () -> Edges.due("told", new WorkedBack().told(3), Edges.NONE));
        Edges.edge("1: STOCK 0 to 0, HOLDS 199, LOST 0 at first", () -> {
            WorkedBack x = new WorkedBack();
            for (int i = 0; i < 12; i++) Edges.due("told " + (10 + i), x.told(10 + i), STOCK_FIRST[i % 4]);
        });
        Edges.edge("1: no IMAGE is kept", () -> {
            WorkedBack x = new WorkedBack();
            Edges.due("0", x.restore(0), Edges.STATE);
            Edges.due("1", x.restore(1), Edges.STATE);
        });
        Edges.edge("objects do not know of each other", () -> {
            WorkedBack x = new WorkedBack();
            WorkedBack y = new WorkedBack();
            x.month(1, 2, 3, 4, 5, 6);
            x.stock(0, Edges.MOST, 9);
            x.stand(0, 1);
            Edges.rule(x, "pa=9");
            x.say('p');
            x.image(0);
            Edges.due("MONTHS", y.told(0), 0);
            Edges.due("signs", y.told(1), 0);
            Edges.due("STAND", y.told(3), Edges.NONE);
            Edges.due("STOCK", y.told(11), 0);
            Edges.due("the RULE", y.all(-1), 15625);
            Edges.due("IMAGE", y.restore(0), Edges.STATE);
        });
    }

    private static void months() {
        for (int i = 0; i < 6; i++) {
            int place = i;
            int most = CELL_MOST[i];
            Edges.edge("2: number " + place + " of a MONTH is 0 to " + most, () -> {
                WorkedBack x = new WorkedBack();
                Edges.due("-1", monthWith(x, place, -1), Edges.OUTSIDE);
                Edges.due("one more", monthWith(x, place, most + 1), Edges.OUTSIDE);
                Edges.due("refused: no MONTH", x.told(0), 0);
                Edges.due("0", monthWith(x, place, 0), 0);
                Edges.due("the most", monthWith(x, place, most), 1);
                Edges.due("it is that number", x.about(1, place), most);
                for (int other = 0; other < 9; other++) {
                    if (other != place) Edges.due("no other one", x.about(1, other), 0);
                }
            });
        }
        Edges.edge("2: MONTHS, 8 at most, numbered from 0 on", () -> {
            WorkedBack x = new WorkedBack();
            for (int m = 0; m < 8; m++) Edges.due("its number", x.month(m, 0, 0, 0, 0, 0), m);
            Edges.due("the ninth", x.month(8, 0, 0, 0, 0, 0), Edges.FULL);
            Edges.due("MONTHS", x.told(0), 8);
            Edges.due("the last is as it was", x.about(7, 0), 7);
            x.tear();
            Edges.due("there is room again", x.month(8, 0, 0, 0, 0, 0), 7);
            Edges.due("for one", x.month(8, 0, 0, 0, 0, 0), Edges.FULL);
        });
        Edges.edge("2: OUTSIDE comes ahead of FULL", () -> {
            WorkedBack x = new WorkedBack();
            for (int m = 0; m < 8; m++) x.month(0, 0, 0, 0, 0, 0);
            for (int i = 0; i < 6; i++) Edges.due("number " + i, monthWith(x, i, CELL_MOST[i] + 1), Edges.OUTSIDE);
        });
        Edges.edge("2: all PRICES are 0 at first, in a torn MONTH's place, too", () -> {
            WorkedBack x = new WorkedBack();
            x.month(1, 1, 1, 1, 1, 1);
            for (int t = 0; t < 3; t++) x.change(0, Edges.PRICE + t, 99);
            x.tear();
            x.month(2, 2, 2, 2, 2, 2);
            for (int t = 0; t < 3; t++) Edges.due("PRICE", x.about(0, Edges.PRICE + t), 0);
        });
    }

    private static void cells() {
        for (int i = 0; i < 9; i++) {
            int what = i;
            int most = CELL_MOST[i];
            Edges.edge("3: change(.., " + what + ", ..) takes 0 to " + most + " and tells which it was", () -> {
                WorkedBack x = new WorkedBack();
                x.month(1, 2, 3, 4, 5, 6);
                x.month(1, 2, 3, 4, 5, 6);
                int first = what < 6 ? what + 1 : 0;
                Edges.due("-1", x.change(1, what, -1), Edges.OUTSIDE);
                Edges.due("one more", x.change(1, what, most + 1), Edges.OUTSIDE);
                Edges.due("it was", x.change(1, what, most), first);
                Edges.due("the most", x.about(1, what), most);
                Edges.due("it was the most", x.change(1, what, 0), most);
                Edges.due("0", x.about(1, what), 0);
                Edges.due("the other MONTH is as it was", x.about(0, what), first);
                for (int other = 0; other < 9; other++) {
                    if (other != what) Edges.due("no other one", x.about(1, other), other < 6 ? other + 1 : 0);
                }
            });
        }
        Edges.edge("3, 4: what is 0 to 8", () -> {
            WorkedBack x = new WorkedBack();
            x.month(0, 0, 0, 0, 0, 0);
            Edges.due("change 9", x.change(0, 9, 0), Edges.OUTSIDE);
            Edges.due("change -1", x.change(0, -1, 0), Edges.OUTSIDE);
            Edges.due("about 9", x.about(0, 9), Edges.OUTSIDE);
            Edges.due("about -1", x.about(0, -1), Edges.OUTSIDE);
            Edges.due("about 8", x.about(0, 8), 0);
        });
        Edges.edge("3, 4: UNKNOWN: there is no such MONTH", () -> {
            WorkedBack x = new WorkedBack();
            Edges.due("none at all", x.change(0, 0, 0), Edges.UNKNOWN);
            Edges.due("none at all", x.about(0, 0), Edges.UNKNOWN);
            x.month(0, 0, 0, 0, 0, 0);
            x.month(0, 0, 0, 0, 0, 0);
            Edges.due("the last", x.change(1, 0, 1), 0);
            Edges.due("the last", x.about(1, 0), 1);
            Edges.due("behind it", x.change(2, 0, 0), Edges.UNKNOWN);
            Edges.due("behind it", x.about(2, 0), Edges.UNKNOWN);
            Edges.due("below", x.change(-1, 0, 0), Edges.UNKNOWN);
            Edges.due("below", x.about(-1, 0), Edges.UNKNOWN);
            x.tear();
            Edges.due("torn", x.change(1, 0, 0), Edges.UNKNOWN);
            Edges.due("torn", x.about(1, 0), Edges.UNKNOWN);
        });
        Edges.edge("3, 4: the last of eight MONTHS is known, the ninth is not", () -> {
            WorkedBack x = new WorkedBack();
            for (int m = 0; m < 8; m++) x.month(m, 0, 0, 0, 0, 0);
            Edges.due("change", x.change(7, 0, 50), 7);
            Edges.due("about", x.about(7, 0), 50);
            Edges.due("change", x.change(8, 0, 50), Edges.UNKNOWN);
            Edges.due("about", x.about(8, 0), Edges.UNKNOWN);
        });
        Edges.edge("5: the last MONTH goes: how many are left; NO: there is none", () -> {
            WorkedBack x = new WorkedBack();
            Edges.due("none", x.tear(), Edges.NO);
            for (int m = 0; m < 8; m++) x.month(10 + m, 0, 0, 0, 0, 0);
            for (int left = 7; left >= 0; left--) {
                Edges.due("left", x.tear(), left);
                Edges.due("MONTHS", x.told(0), left);
                if (left > 0) Edges.due("the one ahead stays", x.about(left - 1, 0), 9 + left);
            }
            Edges.due("none", x.tear(), Edges.NO);
            Edges.due("MONTHS", x.told(0), 0);
        });
    }

    private static void stocks() {
        for (int i = 0; i < 12; i++) {
            int thing = i / 4;
            int what = i % 4;
            Edges.edge("6: stock(" + thing + ", " + what + ", ..) takes 0 to " + STOCK_MOST[what], () -> {
                WorkedBack x = new WorkedBack();
                if (what == Edges.LEAST) x.stock(thing, Edges.MOST, 99);
                Edges.due("-1", x.stock(thing, what, -1), Edges.OUTSIDE);
                Edges.due("one more", x.stock(thing, what, STOCK_MOST[what] + 1), Edges.OUTSIDE);
                Edges.due("it was", x.stock(thing, what, STOCK_MOST[what]), STOCK_FIRST[what]);
                Edges.due("the most", x.told(10 + 4 * thing + what), STOCK_MOST[what]);
                Edges.due("it was the most", x.stock(thing, what, 0), STOCK_MOST[what]);
                Edges.due("0", x.told(10 + 4 * thing + what), 0);
                for (int other = 0; other < 12; other++) {
                    boolean touched = other / 4 == thing && (other % 4 == what || what == 0 && other % 4 == 1);
                    if (!touched) Edges.due("no other one", x.told(10 + other), STOCK_FIRST[other % 4]);
                }
            });
        }
        Edges.edge("6: what is 0 to 3", () -> {
            WorkedBack x = new WorkedBack();
            Edges.due("4", x.stock(0, 4, 0), Edges.OUTSIDE);
            Edges.due("-1", x.stock(0, -1, 0), Edges.OUTSIDE);
        });
        Edges.edge("6: UNKNOWN: there is no such THING, whatever else is told", () -> {
            WorkedBack x = new WorkedBack();
            Edges.due("3", x.stock(3, 0, 0), Edges.UNKNOWN);
            Edges.due("-1", x.stock(-1, 0, 0), Edges.UNKNOWN);
            Edges.due("3", x.stock(3, 4, -1), Edges.UNKNOWN);
            Edges.due("2 is one", x.stock(2, 3, 5), 0);
        });
        Edges.edge("6: OUTSIDE: least above most; both may be one", () -> {
            WorkedBack x = new WorkedBack();
            Edges.due("1 above 0", x.stock(1, Edges.LEAST, 1), Edges.OUTSIDE);
            x.stock(1, Edges.MOST, 50);
            Edges.due("51 above 50", x.stock(1, Edges.LEAST, 51), Edges.OUTSIDE);
            Edges.due("refused changes nothing", x.told(14), 0);
            Edges.due("50 and 50", x.stock(1, Edges.LEAST, 50), 0);
            Edges.due("most 49 below 50", x.stock(1, Edges.MOST, 49), Edges.OUTSIDE);
            Edges.due("refused changes nothing", x.told(15), 50);
            Edges.due("most 50 again", x.stock(1, Edges.MOST, 50), 50);
            Edges.due("99", x.stock(1, Edges.MOST, 99), 50);
            Edges.due("99 and 99", x.stock(1, Edges.LEAST, 99), 50);
        });
        Edges.edge("6: HOLDS may be below the span, LOST does not look at it", () -> {
            WorkedBack x = new WorkedBack();
            x.stock(0, Edges.MOST, 99);
            x.stock(0, Edges.LEAST, 99);
            Edges.due("HOLDS", x.stock(0, Edges.HOLDS, 0), 199);
            Edges.due("LOST", x.stock(0, Edges.LOST, 5), 0);
        });
    }

    private static void standing() {
        Edges.edge("7: all six that can stand in for another one are taken: as it was", () -> {
            WorkedBack x = new WorkedBack();
            int was = Edges.NONE;
            for (int one = 0; one < 3; one++) {
                for (int other = 0; other < 3; other++) {
                    if (one == other) continue;
                    Edges.due("as it was", x.stand(one, other), was);
                    was = 10 * one + other;
                    Edges.due("told", x.told(3), was);
                }
            }
        });
        Edges.edge("7: both -1: none does", () -> {
            WorkedBack x = new WorkedBack();
            Edges.due("none did", x.stand(-1, -1), Edges.NONE);
            x.stand(0, 1);
            Edges.due("a for b", x.stand(-1, -1), 1);
            Edges.due("none did", x.stand(-1, -1), Edges.NONE);
            Edges.due("told", x.told(3), Edges.NONE);
        });
        int[][] none = {{-1, 0}, {-1, 2}, {0, -1}, {2, -1}, {-2, -2}, {-2, -1}, {-1, -2}, {3, 0}, {0, 3}, {3, 3}, {-1, 3}};
        for (int[] b : none) {
            Edges.edge("7: UNKNOWN: no such THING: stand(" + b[0] + ", " + b[1] + ")", () -> {
                WorkedBack x = new WorkedBack();
                x.stand(2, 1);
                Edges.due("stand", x.stand(b[0], b[1]), Edges.UNKNOWN);
                Edges.due("refused changes nothing", x.told(3), 21);
            });
        }
        Edges.edge("7: UNKNOWN: both are one", () -> {
            WorkedBack x = new WorkedBack();
            for (int t = 0; t < 3; t++) Edges.due("stand", x.stand(t, t), Edges.UNKNOWN);
            Edges.due("refused changes nothing", x.told(3), Edges.NONE);
        });
    }

    private static void mixtures() {
        for (int i = 0; i < 6; i++) {
            int ware = i / 3;
            int thing = i % 3;
            Edges.edge("digits: a, b, c of p, then of q, the last one the lowest: place " + i, () -> {
                WorkedBack x = new WorkedBack();
                x.month(0, 0, 0, 0, ware == 0 ? 1 : 0, ware == 1 ? 1 : 0);
                x.month(0, 0, 0, 0, ware == 1 ? 1 : 0, ware == 0 ? 1 : 0);
                int power = new int[] {3125, 625, 125, 25, 5, 1}[3 * ware + thing];
                for (int amount = 0; amount < 5; amount++) {
                    for (int t = 0; t < 3; t++) {
                        Edges.due("NEEDS", x.needs(amount * power, 0, t), t == thing ? amount : 0);
                        Edges.due("of the other WARE", x.needs(amount * power, 1, t), 0);
                    }
                }
            });
        }
        Edges.edge("a MIXTURE is 0 to 15624", () -> {
            WorkedBack x = new WorkedBack();
            x.month(0, 0, 0, 0, 1, 1);
            for (int t = 0; t < 3; t++) {
                Edges.due("the first has nothing", x.needs(0, 0, t), 0);
                Edges.due("the last has all", x.needs(15624, 0, t), 8);
            }
            Edges.due("one more", x.needs(15625, 0, 0), Edges.UNKNOWN);
            Edges.due("one less", x.needs(-1, 0, 0), Edges.UNKNOWN);
        });
    }

    private static void ins(int thing) {
        Edges.edge("each IN may be GIVE less or more: THING " + thing, () -> {
            WorkedBack x = Edges.strict();
            Edges.monthOf(x, thing, 2, 1, 1, 0);
            for (int need = 0; need < 5; need++) {
                Edges.agrees(need + " of 1 to 3", x, Edges.only(thing, need, 0), need >= 1 && need <= 3);
            }
            x.change(0, Edges.GIVE, 0);
            for (int need = 0; need < 5; need++) Edges.agrees("of 2", x, Edges.only(thing, need, 0), need == 2);
        });
        Edges.edge("GIVE 5, both ends: THING " + thing, () -> {
            WorkedBack x = Edges.strict();
            Edges.monthOf(x, thing, 10, 5, 4, 1);
            for (int p = 0; p < 5; p++) {
                for (int q = 0; q < 5; q++) {
                    int need = 4 * p + q;
                    Edges.agrees("NEEDS " + need, x, Edges.only(thing, p, q), need >= 5 && need <= 15);
                }
            }
        });
        Edges.edge("an IN is 0 at least, however many less: THING " + thing, () -> {
            WorkedBack x = new WorkedBack();
            Edges.monthOf(x, thing, 4, 5, 0, 0);
            Edges.due("the least", x.lies(0, thing, 0, 0), 0);
            Edges.due("the most", x.lies(0, thing, 0, 1), 9);
            x.change(0, thing, 5);
            Edges.due("5 less 5", x.lies(0, thing, 0, 0), 0);
            x.change(0, thing, 6);
            Edges.due("6 less 5", x.lies(0, thing, 0, 0), 1);
            WorkedBack y = Edges.strict();
            y.stock(thing, Edges.MOST, 3);
            y.stock(thing, Edges.LEAST, 3);
            Edges.monthOf(y, thing, 0, 5, 1, 0);
            Edges.agrees("3 are there, none come", y, Edges.only(thing, 3, 0), true);
            Edges.agrees("they do not go out again", y, Edges.only(thing, 2, 0), false);
        });
        Edges.edge("an IN may be more than 99 by GIVE: THING " + thing, () -> {
            WorkedBack x = new WorkedBack();
            Edges.monthOf(x, thing, 99, 5, 0, 0);
            Edges.due("the least", x.lies(0, thing, 0, 0), 94);
            Edges.due("the most", x.lies(0, thing, 0, 1), 104);
            WorkedBack y = Edges.strict();
            Edges.monthOf(y, thing, 99, 5, 20, 6);
            Edges.agrees("104", y, Edges.only(thing, 4, 4), true);
            y.change(0, 5, 7);
            Edges.agrees("108", y, Edges.only(thing, 4, 4), false);
        });
    }

    private static void spans(int thing) {
        Edges.edge("STOCK ahead of MONTH 0: 0 to 0 at first: THING " + thing, () -> {
            WorkedBack x = new WorkedBack();
            x.month(0, 0, 0, 0, 1, 0);
            Edges.agrees("0 NEEDED", x, 0, true);
            Edges.agrees("1 NEEDED", x, Edges.only(thing, 1, 0), false);
            x.stock(thing, Edges.MOST, 1);
            Edges.agrees("1 may be there", x, Edges.only(thing, 1, 0), true);
            Edges.agrees("0 NEEDED", x, 0, true);
            Edges.agrees("2 NEEDED", x, Edges.only(thing, 2, 0), false);
        });
        Edges.edge("STOCK ahead of MONTH 0: a number of a span, both ends: THING " + thing, () -> {
            WorkedBack x = Edges.strict();
            x.stock(thing, Edges.MOST, 3);
            x.stock(thing, Edges.LEAST, 1);
            x.month(0, 0, 0, 0, 1, 0);
            for (int need = 0; need < 5; need++) {
                Edges.agrees(need + " of 1 to 3", x, Edges.only(thing, need, 0), need >= 1 && need <= 3);
            }
        });
        Edges.edge("STOCK ahead of MONTH 0: 99 at most: THING " + thing, () -> {
            WorkedBack x = new WorkedBack();
            x.stock(thing, Edges.MOST, 99);
            x.stock(thing, Edges.LEAST, 99);
            x.month(0, 0, 0, 0, 0, 0);
            Edges.due("the least", x.lies(0, thing, 0, 0), 99);
            Edges.due("the most", x.lies(0, thing, 0, 1), 99);
        });
        Edges.edge("HOLDS is not for the STOCK ahead of MONTH 0: THING " + thing, () -> {
            WorkedBack x = Edges.strict();
            x.stock(thing, Edges.MOST, 4);
            x.stock(thing, Edges.LEAST, 4);
            Edges.due("all, with no MONTHS", x.all(-1), 15625);
            x.month(0, 0, 0, 0, 1, 0);
            Edges.agrees("all 4 go", x, Edges.only(thing, 4, 0), true);
            Edges.agrees("1 stays", x, Edges.only(thing, 3, 0), false);
        });
    }

    private static void holds(int thing) {
        Edges.edge("behind each MONTH no more than HOLDS: THING " + thing, () -> {
            WorkedBack x = Edges.strict();
            x.stock(thing, Edges.HOLDS, 5);
            Edges.monthOf(x, thing, 5, 0, 1, 0);
            Edges.agrees("5 stay", x, 0, true);
            x.change(0, thing, 6);
            Edges.agrees("6 would", x, 0, false);
            Edges.agrees("1 goes, 5 stay", x, Edges.only(thing, 1, 0), true);
            x.month(0, 0, 0, 0, 0, 0);
            Edges.monthOf(x, thing, 1, 0, 0, 0);
            Edges.agrees("6 would, two MONTHS later", x, Edges.only(thing, 1, 0), false);
            Edges.agrees("5 stay", x, Edges.only(thing, 2, 0), true);
        });
        Edges.edge("HOLDS 199 at first, and at most: THING " + thing, () -> {
            WorkedBack x = new WorkedBack();
            x.stock(thing, Edges.MOST, 99);
            x.stock(thing, Edges.LEAST, 99);
            Edges.monthOf(x, thing, 99, 0, 0, 0);
            Edges.monthOf(x, thing, 1, 0, 0, 0);
            Edges.agrees("199", x, 0, true);
            Edges.due("it lies there", x.lies(0, thing, 1, 0), 199);
            x.change(1, thing, 2);
            Edges.agrees("200", x, 0, false);
            x.change(1, Edges.GIVE, 1);
            Edges.agrees("199, give or take", x, 0, true);
            Edges.due("no more than it holds", x.lies(0, thing, 1, 1), 199);
        });
        Edges.edge("within a MONTH it may be more than HOLDS: THING " + thing, () -> {
            WorkedBack x = Edges.strict();
            Edges.monthOf(x, thing, 80, 0, 20, 0);
            Edges.agrees("80 come, 80 go", x, Edges.only(thing, 4, 0), true);
            x.change(0, thing, 81);
            Edges.agrees("1 stays", x, Edges.only(thing, 4, 0), false);
        });
        Edges.edge("never below 0: THING " + thing, () -> {
            WorkedBack x = new WorkedBack();
            x.stock(thing, Edges.MOST, 2);
            Edges.monthOf(x, thing, 2, 0, 1, 0);
            Edges.agrees("all 4 go", x, Edges.only(thing, 4, 0), true);
            x.stock(thing, Edges.MOST, 1);
            Edges.agrees("there are 3", x, Edges.only(thing, 4, 0), false);
            Edges.monthOf(x, thing, 99, 0, 0, 0);
            Edges.agrees("what comes later does not help", x, Edges.only(thing, 4, 0), false);
        });
    }

    private static void losses(int thing) {
        Edges.edge("from 0 to LOST are gone: THING " + thing, () -> {
            WorkedBack x = Edges.strict();
            x.stock(thing, Edges.LOST, 5);
            for (int in = 0; in <= 7; in++) {
                if (in > 0) x.tear();
                Edges.monthOf(x, thing, in, 0, 1, 0);
                Edges.agrees(in + " are gone", x, 0, in <= 5);
                Edges.agrees(in + " less 2 are gone", x, Edges.only(thing, 2, 0), in >= 2 && in <= 7);
            }
        });
        Edges.edge("LOST is 0 at first: THING " + thing, () -> {
            WorkedBack x = Edges.strict();
            Edges.monthOf(x, thing, 1, 0, 1, 0);
            Edges.agrees("1 can not be gone", x, 0, false);
            x.stock(thing, Edges.LOST, 1);
            Edges.agrees("now it can", x, 0, true);
        });
        Edges.edge("no more is gone than is there: THING " + thing, () -> {
            WorkedBack x = new WorkedBack();
            x.stock(thing, Edges.LOST, 5);
            Edges.monthOf(x, thing, 4, 0, 1, 0);
            Edges.due("the least", x.lies(0, thing, 0, 0), 0);
            Edges.due("the most", x.lies(0, thing, 0, 1), 4);
            Edges.agrees("what is NEEDED goes first", x, Edges.only(thing, 4, 0), true);
        });
        Edges.edge("in each MONTH some may be gone: THING " + thing, () -> {
            WorkedBack x = new WorkedBack();
            x.stock(thing, Edges.LOST, 2);
            Edges.monthOf(x, thing, 9, 0, 0, 0);
            x.month(0, 0, 0, 0, 0, 0);
            x.month(0, 0, 0, 0, 0, 0);
            for (int m = 0; m < 3; m++) {
                Edges.due("the least", x.lies(0, thing, m, 0), 7 - 2 * m);
                Edges.due("the most", x.lies(0, thing, m, 1), 9);
            }
        });
    }

    /** c stands in for a; both and b are NEEDED. */
    private static WorkedBack substituted(int priceOfC, int priceOfA) {
        WorkedBack x = new WorkedBack();
        x.month(0, 0, 0, 0, 1, 2);
        x.change(0, Edges.PRICE, priceOfA);
        x.change(0, Edges.PRICE + 2, priceOfC);
        x.stand(2, 0);
        return x;
    }

    private static void needs(String what, WorkedBack x, int month, int a, int b, int c) {
        int mixture = Edges.mix(1, 2, 3, 4, 1, 0);
        Edges.due(what + ": a", x.needs(mixture, month, 0), a);
        Edges.due(what + ": b", x.needs(mixture, month, 1), b);
        Edges.due(what + ": c", x.needs(mixture, month, 2), c);
    }

    private static void substitutes() {
        Edges.edge("in MONTHS in which its PRICE is lower all that is NEEDED of the other one is NEEDED of it", () -> {
            needs("98 and 99", substituted(98, 99), 0, 0, 4, 12);
            needs("0 and 1", substituted(0, 1), 0, 0, 4, 12);
        });
        Edges.edge("the same PRICE is not lower", () -> {
            needs("0 and 0", substituted(0, 0), 0, 9, 4, 3);
            needs("99 and 99", substituted(99, 99), 0, 9, 4, 3);
        });
        Edges.edge("a higher PRICE is not lower", () -> {
            needs("1 and 0", substituted(1, 0), 0, 9, 4, 3);
            needs("99 and 98", substituted(99, 98), 0, 9, 4, 3);
        });
        Edges.edge("each MONTH has its own PRICES", () -> {
            WorkedBack x = substituted(1, 2);
            x.month(0, 0, 0, 0, 1, 2);
            needs("MONTH 0", x, 0, 0, 4, 12);
            needs("MONTH 1", x, 1, 9, 4, 3);
        });
        Edges.edge("a third THING's PRICE does not tell", () -> {
            WorkedBack x = substituted(5, 6);
            x.change(0, Edges.PRICE + 1, 0);
            needs("b is cheapest", x, 0, 0, 4, 12);
            x.stand(1, 0);
            needs("now b", x, 0, 0, 13, 3);
            x.change(0, Edges.PRICE + 1, 6);
            needs("no more", x, 0, 9, 4, 3);
        });
        Edges.edge("none stands in: PRICES do not tell", () -> {
            WorkedBack x = substituted(1, 2);
            x.stand(-1, -1);
            needs("none", x, 0, 9, 4, 3);
        });
        Edges.edge("the other one's STOCK gives nothing then", () -> {
            WorkedBack x = Edges.strict();
            x.month(0, 0, 3, 0, 1, 0);
            x.change(0, Edges.PRICE, 1);
            x.stand(2, 0);
            Edges.agrees("3 of c for 3 of a", x, Edges.only(0, 3, 0), true);
            Edges.agrees("or of itself", x, Edges.only(2, 3, 0), true);
            Edges.agrees("or of both", x, Edges.mix(1, 0, 2, 0, 0, 0), true);
            Edges.agrees("no more", x, Edges.mix(1, 0, 3, 0, 0, 0), false);
            x.change(0, 0, 1);
            Edges.agrees("1 of a would have to stay", x, Edges.only(0, 3, 0), false);
        });
    }

    private static void agreeing() {
        Edges.edge("with no MONTHS every MIXTURE AGREES", () -> {
            WorkedBack x = Edges.strict();
            Edges.due("all", x.all(-1), 15625);
            Edges.agrees("the last", x, 15624, true);
        });
        for (int t = 0; t < 3; t++) {
            int thing = t;
            Edges.edge("it AGREES, if with all THINGS: THING " + thing + " alone does not", () -> {
                WorkedBack x = Edges.strict();
                x.month(2, 2, 2, 0, 1, 0);
                int mixture = Edges.mix(2, 2, 2, 0, 0, 0);
                Edges.agrees("all three", x, mixture, true);
                Edges.agrees("one more", x, mixture + Edges.only(thing, 1, 0), false);
                Edges.agrees("one less", x, mixture - Edges.only(thing, 1, 0), false);
            });
        }
        Edges.edge("for all MONTHS: the first, one between, the last of eight", () -> {
            int[] places = {0, 4, 7};
            for (int place : places) {
                WorkedBack x = Edges.strict();
                for (int m = 0; m < 8; m++) x.month(1, 0, 0, 0, 1, 0);
                Edges.agrees("all", x, Edges.only(0, 1, 0), true);
                x.change(place, 0, 2);
                Edges.agrees("MONTH " + place, x, Edges.only(0, 1, 0), false);
            }
        });
        Edges.edge("the numbers of all MONTHS go together: one STOCK, not one for each MONTH", () -> {
            WorkedBack x = Edges.strict();
            x.stock(0, Edges.HOLDS, 3);
            x.month(2, 0, 0, 1, 0, 0);
            x.month(0, 0, 0, 0, 1, 0);
            x.month(0, 0, 0, 0, 1, 0);
            Edges.agrees("1 each of 3", x, Edges.only(0, 1, 0), true);
            Edges.agrees("2 each of 3", x, Edges.only(0, 2, 0), false);
        });
    }

    public static void main(String[] args) {
        aNewObject();
        months();
        cells();
        stocks();
        standing();
        mixtures();
        for (int thing = 0; thing < 3; thing++) {
            ins(thing);
            spans(thing);
            holds(thing);
            losses(thing);
        }
        substitutes();
        agreeing();
        Edges.end("the book");
    }
}
