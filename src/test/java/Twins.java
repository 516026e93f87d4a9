import java.util.function.Consumer;
import java.util.function.Function;
import java.util.function.Supplier;

/**
 * Taverns that the same calls have made: a call that throws must leave the one like the other, in its state, in what
 * can be undone, in its snapshot and in its input. Each way of looking takes a pair of its own, so that no object is
 * used for more than the 512 calls of the document.
 */
final class Twins {
    private Twins() {
    }

    /** The call throws just this class, and leaves all, the reason too. */
    static void thrown(String call, Class<?> want, Supplier<TavernStools> make, Consumer<TavernStools> act) {
        TavernStools x = make.get();
        String reason = reasonOf(x);
        Checks.due(call, want.getSimpleName(), outcome(x, act));
        Checks.due(call + ": the reason stays", reason, reasonOf(x));
        staysAsItWas(call, make, act);
    }

    /** The call is refused for this reason with this detail, and leaves all else. */
    static void refused(String call, int reason, int detail, Supplier<TavernStools> make,
            Consumer<TavernStools> act) {
        TavernStools x = make.get();
        Checks.due(call, "UnsupportedOperationException", outcome(x, act));
        Checks.due(call + ": the reason and its detail", reason + " " + detail, reasonOf(x));
        staysAsItWas(call, make, act);
    }

    /** The call throws nothing at all. */
    static void allowed(String call, Supplier<TavernStools> make, Consumer<TavernStools> act) {
        Checks.due(call, "nothing", outcome(make.get(), act));
    }

    static String outcome(TavernStools x, Consumer<TavernStools> act) {
        try {
            act.accept(x);
            return "nothing";
        } catch (RuntimeException e) {
            return e.getClass().getSimpleName();
        }
    }

    static String reasonOf(TavernStools x) {
        try {
            return x.refusal(false) + " " + x.refusal(true);
        } catch (RuntimeException e) {
            return e.getClass().getSimpleName();
        }
    }

    static void staysAsItWas(String call, Supplier<TavernStools> make, Consumer<TavernStools> act) {
        same(call + ": the state", make, act, Twins::whole);
        same(call + ": what can be undone", make, act, Twins::undone);
        same(call + ": the snapshot", make, act, Twins::restored);
        same(call + ": the input", make, act, Twins::carriedOut);
    }

    private static void same(String call, Supplier<TavernStools> make, Consumer<TavernStools> act,
            Function<TavernStools, String> tell) {
        TavernStools x = make.get();
        outcome(x, act);
        Checks.due(call, tell.apply(make.get()), tell.apply(x));
    }

    /** All that can be asked without a change, the line as it was written last, too. */
    static String whole(TavernStools x) {
        StringBuilder all = new StringBuilder(Checks.state(x));
        all.append(x.clashes(false)).append(' ').append(x.clashes(true)).append(' ').append(x.noiseBits());
        all.append(' ').append(x.isWell()).append(' ').append(x.errorPosition()).append(' ');
        return all.append(writtenLine(x)).toString();
    }

    static String writtenLine(TavernStools x) {
        StringBuilder line = new StringBuilder();
        for (int index = 0; index < 100; index++) {
            try {
                line.append(x.character(index));
            } catch (IndexOutOfBoundsException e) {
                return line.toString();
            }
        }
        return line.toString();
    }

    /** The states of all changes that can be undone, from the latest on. */
    private static String undone(TavernStools x) {
        StringBuilder all = new StringBuilder();
        for (int times = 0; times < 9; times++) {
            all.append(outcome(x, TavernStools::undo)).append(' ').append(brief(x));
        }
        return all.toString();
    }

    private static String restored(TavernStools x) {
        return outcome(x, TavernStools::restore) + whole(x);
    }

    private static String carriedOut(TavernStools x) {
        return outcome(x, TavernStools::run) + whole(x);
    }

    private static String brief(TavernStools x) {
        StringBuilder all = new StringBuilder();
        for (int what = 0; what <= 12; what++) {
            all.append(x.account(what)).append(' ');
        }
        return all.append(Checks.lineOf(x, x.line())).append('\n').toString();
    }
}
