import java.util.function.IntBinaryOperator;
import java.util.function.IntUnaryOperator;

/** What the tests share: answers that are due, exceptions that are due, and the state as a text. */
final class Checks {
    private static int wrong = 0;
    private static int made = 0;

    private Checks() {
    }

    static void due(String call, Object want, Object got) {
        made++;
        if (!want.equals(got)) {
            wrong++;
            System.out.println(call + " answered " + got + ", due is " + want);
        }
    }

    /** The call throws just this class, and leaves the state as it was. */
    static void thrown(TavernStools x, String call, Class<?> want, Runnable act) {
        String before = state(x);
        due(call, want.getSimpleName(), nameOfThrown(act));
        due(call + ": the state behind it", before, state(x));
    }

    /** The call is refused for this reason with this detail, and leaves the state as it was. */
    static void refused(TavernStools x, String call, int reason, int detail, Runnable act) {
        thrown(x, call, UnsupportedOperationException.class, act);
        due(call + ": reason", reason, x.refusal(false));
        due(call + ": detail", detail, x.refusal(true));
    }

    private static String nameOfThrown(Runnable act) {
        try {
            act.run();
            return "nothing";
        } catch (RuntimeException e) {
            return e.getClass().getSimpleName();
        }
    }

    /** All that a tavern tells of its state without changing its line. */
    static String state(TavernStools x) {
        return state(x::account, x::stoolOf, x::sitterOf);
    }

    static String state(IntUnaryOperator account, IntBinaryOperator stoolOf, IntBinaryOperator sitterOf) {
        StringBuilder all = new StringBuilder();
        for (int what = 0; what <= 12; what++) {
            all.append(account.applyAsInt(what)).append(' ');
        }
        addRows(all, '/', account.applyAsInt(0), 5, stoolOf);
        addRows(all, '*', account.applyAsInt(2), 4, sitterOf);
        return all.toString();
    }

    private static void addRows(StringBuilder all, char mark, int rows, int lastWhat, IntBinaryOperator of) {
        for (int row = 0; row < rows; row++) {
            all.append(mark);
            for (int what = 0; what <= lastWhat; what++) {
                all.append(of.applyAsInt(row, what)).append(' ');
            }
        }
    }

    /** The line as a text, of the length that the call that wrote it answered. */
    static String lineOf(TavernStools x, int length) {
        StringBuilder line = new StringBuilder();
        for (int index = 0; index < length; index++) {
            line.append(x.character(index));
        }
        return line.toString();
    }

    static void append(TavernStools x, String text) {
        for (int index = 0; index < text.length(); index++) {
            x.append(text.charAt(index));
        }
    }

    static int runText(TavernStools x, String text) {
        append(x, text);
        return x.run();
    }

    static void end() {
        System.out.println(made + " checks, " + wrong + " wrong");
        if (wrong != 0) {
            System.exit(1);
        }
    }
}
