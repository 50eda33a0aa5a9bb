import java.lang.reflect.InvocationTargetException;
import java.lang.reflect.Method;
import java.util.ArrayList;
import java.util.Arrays;
import java.util.HashMap;
import java.util.List;
import java.util.Map;
import java.util.TreeMap;

/**
 * The Terms on refused calls, for every call in three books (a new one, one with two MONTHS, one that is full
 * and with which nothing FITS): each number at both of its ends and beside them, the order of the refusals, and
 * that a refused call changes nothing.
 */
public final class RefusalTest {
    private static final int UNKNOWN = WorkedBack.UNKNOWN, OUTSIDE = WorkedBack.OUTSIDE, STATE = WorkedBack.STATE,
            FULL = WorkedBack.FULL, NO = WorkedBack.NO;
    /** A call whose numbers are all as told is taken. */
    private static final int TAKEN = 1;
    private static final int NEW = 0, SOME = 1, FILLED = 2;
    private static final int[] MONTHS = {0, 2, 8};
    private static final String[] BOOKS = {"a new book", "a book of two MONTHS", "a full book with which none FITS"};
    private static final Map<String, Method> CALLS = new HashMap<>();

    private static int wrong;
    private static int refused;
    private static int taken;

    /** One number of a call: which ones are as told, and how the others are refused. */
    private record Number(int refusal, int least, int most, int... edges) {
        boolean takes(int v) {
            return v >= least && v <= most;
        }
    }

    /** A call, its numbers, and what is due of it in each book when they are all as told. */
    private record Call(String name, int[] due, Number... numbers) {
    }

    private static Number of(int refusal, int least, int most) {
        return new Number(refusal, least, most, least, most, least - 1, most + 1, Integer.MIN_VALUE, Integer.MAX_VALUE);
    }

    private static Number outside(int least, int most) {
        return of(OUTSIDE, least, most);
    }

    private static Number unknown(int most) {
        return of(UNKNOWN, 0, most);
    }

    /** One number alone, which is as told. */
    private static Number just(int v) {
        return new Number(OUTSIDE, v, v, v);
    }

    private static final int[] ALWAYS = {TAKEN, TAKEN, TAKEN};
    private static final int[] IF_FITS = {TAKEN, TAKEN, NO};

    private static List<Call> calls(int book) {
        Number month = unknown(MONTHS[book] - 1);
        Number mixture = unknown(15624);
        Number thing = unknown(2);
        Number ware = unknown(1);
        Number end = outside(0, 1);
        Number out = outside(0, 20);
        Number in = outside(0, 99);
        List<Call> calls = new ArrayList<>();
        calls.add(new Call("month", new int[] {TAKEN, TAKEN, FULL}, in, in, in, outside(0, 5), out, out));
        int[] cellMost = {99, 99, 99, 5, 20, 20, 99, 99, 99};
        for (int what = 0; what < 9; what++) {
            calls.add(new Call("change", ALWAYS, month, just(what), outside(0, cellMost[what])));
        }
        calls.add(new Call("change", ALWAYS, month, outside(0, 8), just(5)));
        calls.add(new Call("about", ALWAYS, month, outside(0, 8)));
        calls.add(new Call("tear", new int[] {NO, TAKEN, TAKEN}));
        for (int what = 0; what < 4; what++) {
            int least = what == 1 && book == SOME ? 4 : 0;
            int most = what == 0 ? (book == SOME ? 9 : 0) : new int[] {0, 99, 199, 5}[what];
            calls.add(new Call("stock", ALWAYS, book == SOME && what < 2 ? just(0) : thing, just(what),
                    outside(least, most)));
        }
        calls.add(new Call("stock", ALWAYS, book == SOME ? just(0) : thing, outside(0, 3), just(book == SOME ? 4 : 0)));
        calls.add(new Call("stock", ALWAYS, thing, outside(0, 3), new Number(OUTSIDE, 0, 0, -1, 200)));
        calls.add(new Call("say", new int[] {TAKEN, TAKEN, FULL}, outside(33, 126)));
        calls.add(new Call("rule", new int[] {NO, NO, NO}));
        calls.add(new Call("fits", ALWAYS, mixture, outside(0, 2)));
        calls.add(new Call("needs", ALWAYS, mixture, month, thing));
        calls.add(new Call("judge", ALWAYS, mixture, outside(0, 1)));
        calls.add(new Call("lies", null, mixture, thing, month, end));
        calls.add(new Call("ends", IF_FITS, ware, thing, end));
        for (String name : new String[] {"must", "plain", "near", "doubt"}) calls.add(new Call(name, IF_FITS, end));
        calls.add(new Call("changed", new int[] {STATE, STATE, NO}, outside(0, 3)));
        calls.add(new Call("cost", ALWAYS, mixture, ware, month));
        calls.add(new Call("costs", IF_FITS, ware, month, end));
        calls.add(new Call("buy", IF_FITS, thing, out, out, end));
        calls.add(new Call("settle", new int[] {STATE, TAKEN, NO}, outside(0, 2)));
        calls.add(new Call("hide", new int[] {STATE, NO, TAKEN}, outside(0, 999), outside(0, 3)));
        calls.add(new Call("hide", new int[] {STATE, TAKEN, TAKEN}, just(999), outside(0, 3)));
        calls.add(new Call("image", ALWAYS, outside(0, 1)));
        calls.add(new Call("restore", null, outside(0, 1)));
        calls.add(new Call("told", ALWAYS, outside(0, 3)));
        calls.add(new Call("told", ALWAYS, outside(10, 21)));
        return calls;
    }

    /** In the book of two MONTHS the PRICES are such that a PURSE of 0 does not do for any. */
    private static WorkedBack make(int book) {
        WorkedBack x = new WorkedBack();
        if (book == SOME) {
            x.stock(0, 1, 9);
            x.stock(0, 0, 4);
            x.stock(1, 3, 2);
            x.image(0);
            for (int m = 0; m < 2; m++) {
                x.month(6, 4, 2, 2, 1, 1);
                for (int t = 0; t < 3; t++) x.change(m, 6 + t, 3 + m + t);
            }
            x.stand(1, 2);
            for (char sign : "pa>0|qa>0".toCharArray()) x.say(sign);
            x.rule();
            x.say('p');
            x.say('!');
        }
        if (book == FILLED) {
            for (int m = 0; m < 8; m++) x.month(m, m, m, m % 6, m, m);
            x.image(0);
            x.stand(2, 0);
            x.image(1);
            for (char sign : "pa=5|pa=6".toCharArray()) x.say(sign);
            x.rule();
            for (int i = 0; i < 50; i++) x.say(i == 49 ? '#' : "pa=1|".charAt(i % 5));
        }
        return x;
    }

    /** All that can be seen of an object, its IMAGES too. */
    private static String look(WorkedBack x) {
        StringBuilder seen = new StringBuilder(seeBook(x));
        for (int n = 0; n < 2; n++) seen.append(" IMAGE ").append(x.restore(n)).append(seeBook(x));
        return seen.toString();
    }

    private static String seeBook(WorkedBack x) {
        StringBuilder seen = new StringBuilder();
        for (int what = 0; what <= 21; what++) seen.append(x.told(what)).append(' ');
        for (int m = 0; m < x.told(0); m++) {
            for (int what = 0; what < 9; what++) seen.append(x.about(m, what)).append(' ');
        }
        seen.append(x.fault()).append(' ').append(x.all(-1)).append(' ').append(x.all(7)).append(' ');
        for (int mixture = 0; mixture < 15625; mixture += 781) seen.append(x.fits(mixture, 0));
        return seen.toString();
    }

    private static int call(WorkedBack x, String name, int[] v) {
        try {
            return (Integer) CALLS.get(name).invoke(x, Arrays.stream(v).boxed().toArray());
        } catch (InvocationTargetException | IllegalAccessException e) {
            System.out.println(name + Arrays.toString(v) + " threw " + e.getCause());
            wrong++;
            return 0;
        }
    }

    /** The first refusal that fits the numbers; TAKEN: none does. */
    private static int refusal(Call call, int[] v) {
        int due = TAKEN;
        for (int i = 0; i < v.length; i++) {
            int one = call.numbers[i].takes(v[i]) ? TAKEN : call.numbers[i].refusal;
            if (one == UNKNOWN || one == OUTSIDE && due == TAKEN) due = one;
        }
        return due;
    }

    /** All choices of edges; with many numbers those in which at most two are not the first edge. */
    private static List<int[]> choices(Call call) {
        List<int[]> all = new ArrayList<>();
        int n = call.numbers.length;
        int many = 1;
        for (Number number : call.numbers) many *= number.edges.length;
        for (int code = 0; code < many; code++) {
            int[] v = new int[n];
            int others = 0;
            int rest = code;
            for (int i = 0; i < n; i++) {
                int[] edges = call.numbers[i].edges;
                v[i] = edges[rest % edges.length];
                others += rest % edges.length > 0 ? 1 : 0;
                rest /= edges.length;
            }
            if (n <= 4 || others <= 2) all.add(v);
        }
        return all;
    }

    private static void refuse(int book, Call call, WorkedBack x, int[] v, int due) {
        refused++;
        int got = call(x, call.name, v);
        if (got != due) {
            wrong++;
            System.out.println(BOOKS[book] + ": " + call.name + Arrays.toString(v) + " answered " + got
                    + ", due is " + due);
        }
    }

    private static void take(int book, Call call, int[] v) {
        taken++;
        int got = call(make(book), call.name, v);
        if (got == UNKNOWN || got == OUTSIDE || call.due != null && got < 0 && got != WorkedBack.NONE) {
            wrong++;
            System.out.println(BOOKS[book] + ": " + call.name + Arrays.toString(v) + " answered " + got
                    + ", but is as told");
        }
    }

    private static void tryCall(int book, Call call) {
        WorkedBack x = make(book);
        int made = 0;
        for (int[] v : choices(call)) {
            int due = refusal(call, v);
            if (due == TAKEN && call.due != null && isDue(call, book, v)) due = call.due[book];
            if (due == TAKEN) {
                take(book, call, v);
            } else {
                refuse(book, call, x, v, due);
                made++;
            }
            if (made == 200) {
                compare(book, call, x);
                x = make(book);
                made = 0;
            }
        }
        compare(book, call, x);
    }

    /** hide(0, ..) alone is one that the PURSE does not do for. */
    private static boolean isDue(Call call, int book, int[] v) {
        return !call.name.equals("hide") || book != SOME || v[0] == 0;
    }

    private static void compare(int book, Call call, WorkedBack x) {
        if (!look(x).equals(look(make(book)))) {
            wrong++;
            System.out.println(BOOKS[book] + ": a refused call of " + call.name + " changed something");
        }
    }

    /** For numbers that hang together: a row of calls, all refused alike. */
    private static void row(int book, String name, int due, int[]... rows) {
        WorkedBack x = make(book);
        Call call = new Call(name, null);
        for (int[] v : rows) refuse(book, call, x, v, due);
        compare(book, call, x);
    }

    private static void rows() {
        for (int book = NEW; book <= FILLED; book++) {
            row(book, "stand", UNKNOWN, new int[][] {{0, 0}, {1, 1}, {2, 2}, {-1, 0}, {0, -1}, {3, 0}, {0, 3}, {-2, -2},
                {3, 3}, {-1, 3}, {Integer.MIN_VALUE, 1}, {1, Integer.MAX_VALUE}});
            row(book, "told", OUTSIDE, new int[][] {{4}, {9}, {22}, {-1}, {Integer.MIN_VALUE}, {Integer.MAX_VALUE}});
        }
        row(NEW, "stock", OUTSIDE, new int[][] {{0, 0, 1}, {1, 0, 99}, {2, 0, 1}});
        row(SOME, "stock", OUTSIDE, new int[][] {{0, 0, 10}, {0, 1, 3}, {0, 1, 0}, {1, 0, 1}});
        row(NEW, "restore", STATE, new int[][] {{0}, {1}});
        row(SOME, "restore", STATE, new int[][] {{1}});
        row(SOME, "lies", NO, new int[][] {{15624, 1, 0, 0}, {15624, 1, 1, 1}});
    }

    /** Numbers that may be below 0 would be refused by GONE; no call has such, so none answers below NONE. */
    private static void noneIsGone() {
        if (WorkedBack.GONE != -1000000) {
            wrong++;
            System.out.println("GONE is " + WorkedBack.GONE);
        }
        for (int book = NEW; book <= FILLED; book++) {
            for (Call call : calls(book)) {
                for (int[] v : choices(call)) {
                    if (call(make(book), call.name, v) < WorkedBack.NONE) {
                        wrong++;
                        System.out.println(call.name + Arrays.toString(v) + " answers below NONE");
                    }
                }
            }
        }
    }

    public static void main(String[] args) {
        for (Method m : WorkedBack.class.getDeclaredMethods()) {
            if (java.lang.reflect.Modifier.isPublic(m.getModifiers())) CALLS.put(m.getName(), m);
        }
        Map<String, Boolean> tried = new TreeMap<>();
        for (int book = NEW; book <= FILLED; book++) {
            for (Call call : calls(book)) {
                tryCall(book, call);
                tried.put(call.name, true);
            }
        }
        rows();
        noneIsGone();
        System.out.println(tried.size() + " calls: " + refused + " refused, " + taken + " taken, " + wrong + " wrong");
        if (wrong > 0) System.exit(1);
    }
}
