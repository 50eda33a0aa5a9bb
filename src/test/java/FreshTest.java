import java.util.ArrayList;
import java.util.List;
import java.util.function.Consumer;

/**
 * What a call answers hangs on the book alone, not on what was asked before: of each two alterations one object is
 * asked everything ahead of both, between them and behind them, another one behind them alone.
 */
public final class FreshTest {
    private static int wrong;

    private static List<Consumer<WorkedBack>> alterations() {
        List<Consumer<WorkedBack>> all = new ArrayList<>();
        all.add(x -> x.month(1, 2, 0, 0, 1, 0));
        all.add(x -> x.month(4, 0, 1, 1, 0, 1));
        all.add(WorkedBack::tear);
        all.add(x -> x.change(0, 0, 3));
        all.add(x -> x.change(1, 1, 0));
        all.add(x -> x.change(0, 3, 2));
        all.add(x -> x.change(1, 4, 2));
        all.add(x -> x.change(0, 6, 4));
        all.add(x -> x.change(1, 8, 4));
        all.add(x -> x.stock(0, 1, 1));
        all.add(x -> x.stock(1, 2, 3));
        all.add(x -> x.stock(2, 3, 1));
        all.add(x -> x.stand(1, 0));
        all.add(x -> x.stand(0, 2));
        all.add(x -> x.stand(-1, -1));
        all.add(x -> ruled(x, "pa=1|pb=2"));
        all.add(x -> ruled(x, "qa+qb+qc=0"));
        all.add(WorkedBack::free);
        all.add(x -> x.image(0));
        all.add(x -> x.restore(0));
        return all;
    }

    private static void ruled(WorkedBack x, String text) {
        x.wipe();
        for (char sign : text.toCharArray()) x.say(sign);
        x.rule();
    }

    private static WorkedBack make(boolean fits) {
        WorkedBack x = new WorkedBack();
        for (int t = 0; t < 3; t++) x.stock(t, 2, 0);
        x.image(0);
        x.month(2, 1, 0, 0, 1, 0);
        x.month(fits ? 2 : 4, 1, 0, 1, 1, 0);
        x.change(0, 7, 2);
        return x;
    }

    /** Some sixty calls. */
    private static String ask(WorkedBack x, boolean backward) {
        List<String> answers = new ArrayList<>();
        List<Runnable> asked = new ArrayList<>();
        for (int i = -1; i < 3; i++) {
            int what = i;
            asked.add(() -> answers.add("all " + what + " " + x.all(what)));
            asked.add(() -> answers.add("plain " + what + " " + x.plain(what)));
            asked.add(() -> answers.add("must " + what + " " + x.must(what)));
            asked.add(() -> answers.add("near " + what + " " + x.near(what)));
            asked.add(() -> answers.add("doubt " + what + " " + x.doubt(what)));
            asked.add(() -> answers.add("changed " + what + " " + x.changed(what + 1)));
            asked.add(() -> answers.add("settle " + what + " " + x.settle(what)));
            asked.add(() -> answers.add("hide " + what + " " + x.hide(9, what + 1)));
            asked.add(() -> answers.add("ends " + what + " " + x.ends(1, what, 1)));
            asked.add(() -> answers.add("costs " + what + " " + x.costs(0, what, 1)));
            asked.add(() -> answers.add("buy " + what + " " + x.buy(what, 3, 2, 1)));
            asked.add(() -> answers.add("judge " + what + " " + x.judge(6875, what)));
            asked.add(() -> answers.add("lies " + what + " " + x.lies(6875, 0, what, 1)));
            asked.add(() -> answers.add("needs " + what + " " + x.needs(6875, 0, what)));
            asked.add(() -> answers.add("fits " + what + " " + x.fits(6875, what)));
        }
        for (int i = 0; i < asked.size(); i++) asked.get(backward ? asked.size() - 1 - i : i).run();
        answers.sort(null);
        return String.join(", ", answers);
    }

    public static void main(String[] args) {
        List<Consumer<WorkedBack>> all = alterations();
        for (int i = 0; i < all.size(); i++) {
            for (int j = 0; j < all.size(); j++) {
                boolean fits = (i + j) % 2 == 0;
                WorkedBack x = make(fits);
                WorkedBack y = make(fits);
                ask(x, false);
                all.get(i).accept(x);
                all.get(i).accept(y);
                if (j % 3 == 0) ask(x, true);
                all.get(j).accept(x);
                all.get(j).accept(y);
                String due = ask(y, true);
                if (!ask(x, false).equals(due) || !ask(x, true).equals(due)) {
                    wrong++;
                    System.out.println("alterations " + i + " and " + j + ": what was asked before tells");
                }
            }
        }
        System.out.println(all.size() * all.size() + " pairs of alterations, " + wrong + " wrong");
        if (wrong > 0) System.exit(1);
    }
}
