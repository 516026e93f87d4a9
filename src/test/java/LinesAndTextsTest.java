import java.util.NoSuchElementException;
import java.util.function.Consumer;

/** Promises 25 to 37. */
public final class LinesAndTextsTest {
    public static void main(String[] args) {
        line();
        stoolLine();
        manyCoins();
        character();
        append();
        run();
        runOfEachOrder();
        runRefused();
        runWrong();
        errorPositions();
        refusal();
        account();
        isWell();
        meanHeight();
        undo();
        undoOfEachChange();
        saveAndRestore();
        Checks.end();
    }

    private static TavernStools tavern() {
        TavernStools x = new TavernStools();
        x.stool(10, 3, 2, false);
        x.stool(30, 9, 9, true);
        x.stool(8, 0, 0, false);
        x.guest(3, 100);
        x.cat(150);
        x.guest(7, 20);
        return x;
    }

    private static void line() {
        TavernStools empty = new TavernStools();
        Checks.due("25: no stools", 0, empty.line());
        TavernStools x = tavern();
        Checks.due("25: all are free", ".|..", Checks.lineOf(x, x.line()));
        x.sit(1, 0);
        x.sit(2, 1);
        Checks.due("25: a cat, a guest at the bar", "B|c.", Checks.lineOf(x, x.line()));
        TavernStools full = new TavernStools();
        for (int number = 0; number < 12; number++) {
            full.stool(1, 0, 0, number == 11);
            full.guest(1, 1);
            full.sit(number, number);
        }
        Checks.due("25: all letters", "abcdefghijk|l", Checks.lineOf(full, full.line()));
        TavernStools cats = new TavernStools();
        for (int number = 0; number < 12; number++) {
            cats.stool(1, 0, 0, false);
            cats.cat(1);
        }
        for (int number = 0; number < 12; number++) {
            cats.sit(number, 11 - number);
        }
        Checks.due("25: all cats", "LKJIHGFEDCBA", Checks.lineOf(cats, cats.line()));
    }

    private static void stoolLine() {
        TavernStools x = new TavernStools();
        for (int number = 0; number < 12; number++) {
            x.stool(20 + number, 3, 4, number == 3);
        }
        x.coin(3);
        x.coin(3);
        Checks.due("26: as told", "3^23~2'''oo", Checks.lineOf(x, x.stoolLine(3)));
        Checks.due("26: two digits", "11^31~4'''", Checks.lineOf(x, x.stoolLine(11)));
        Twins.outcome(x, y -> y.stoolLine(12));
        Checks.due("26: the line before stays then", "11^31~4'''", Checks.lineOf(x, 10));
        TavernStools plain = tavern();
        plain.stool(20, 3, 3, true);
        plain.coin(3);
        Checks.due("26: as the document tells", "3^20~2'''o", Checks.lineOf(plain, plain.stoolLine(3)));
        Checks.due("26: one digit, no squeak, no coin", "2^8~0", Checks.lineOf(plain, plain.stoolLine(2)));
        Checks.due("26: squeaks", "1^30~9'''''''''", Checks.lineOf(plain, plain.stoolLine(1)));
    }

    /** As many coins under one stool as 500 calls bring there. */
    private static void manyCoins() {
        TavernStools x = new TavernStools();
        x.stool(1, 0, 9, false);
        x.guest(1, 200);
        x.sit(0, 0);
        for (int number = 1; number < 12; number++) {
            x.stool(1, 0, 0, false);
            x.guest(1, 1);
            x.sit(number, number);
        }
        int coins = 0;
        for (int round = 0; round < 200; round++) {
            x.coin(0);
            x.night();
            coins++;
        }
        Checks.due("26: many coins", 5 + 9 + coins, x.stoolLine(0));
        Checks.due("27: the last coin", 'o', x.character(4 + 9 + coins));
    }

    private static void character() {
        TavernStools x = tavern();
        Checks.thrown(x, "27: empty at first", IndexOutOfBoundsException.class, () -> x.character(0));
        x.stoolLine(1);
        Checks.due("27: character", '~', x.character(4));
        x.line();
        Checks.due("27: in place of the line before", '|', x.character(1));
        x.sit(0, 0);
        x.undo();
        x.getUp(x.sit(0, 0));
        Checks.due("27: the line stays", ".|..", Checks.lineOf(x, 4));
    }

    private static void append() {
        TavernStools x = new TavernStools();
        for (int count = 1; count <= 60; count++) {
            Checks.due("28: append", count, x.append((char) (count * 1000)));
        }
        Checks.thrown(x, "28: full", IllegalStateException.class, () -> x.append('n'));
        Checks.due("28: the characters", 60, x.account(11));
    }

    private static void run() {
        TavernStools x = new TavernStools();
        Checks.due("29: run", 4, Checks.runText(x, "s10/32;s20/10|;g3*50;k007"));
        Checks.due("29: the input is empty", 0, x.account(11));
        Checks.due("29: one change", 1, x.account(12));
        Checks.due("29: stools", ".|.", Checks.lineOf(x, x.line()));
        Checks.due("29: a stool", "0^10~2'''", Checks.lineOf(x, x.stoolLine(0)));
        Checks.due("29: a cat", 7, x.sitterOf(1, 1));
        Checks.due("29: run", 5, Checks.runText(x, "p00>01;p1>0;c0;n;b0-1"));
        Checks.due("29: they sit", "B|a", Checks.lineOf(x, x.line()));
        Checks.due("29: undone as one", 1, x.undo());
        Checks.due("29: none sits", 0, x.account(4));
        TavernStools full = new TavernStools();
        Checks.due("29: 30 orders", 30, Checks.runText(full, "n" + ";n".repeat(29)));
        Checks.due("29: 30 nights", 30, full.account(7));
    }

    private static void runOfEachOrder() {
        TavernStools x = new TavernStools();
        String[] texts = {"s40/99|", "s1/04", "g9*200", "k1", "p0>0", "p1>1", "c1", "n", "u0", "b1-1", "u1"};
        String[] states = {
            "1 1 0 0 0 6 0 0 0 0 9 0 1 /40 9 9 1 0 -1 ",
            "2 1 0 0 0 6 0 0 0 0 13 0 2 /40 9 9 1 0 -1 /1 0 4 0 0 -1 ",
            "2 1 1 0 0 6 0 0 0 0 13 0 3 /40 9 9 1 0 -1 /1 0 4 0 0 -1 *9 200 -1 0 0 ",
            "2 1 2 1 0 6 0 0 0 0 13 0 4 /40 9 9 1 0 -1 /1 0 4 0 0 -1 *9 200 -1 0 0 *0 1 -1 0 1 ",
            "2 1 2 1 1 6 0 0 0 0 13 0 5 /40 9 9 1 0 0 /1 0 4 0 0 -1 *9 200 0 0 0 *0 1 -1 0 1 ",
            "2 1 2 1 2 6 0 0 0 0 13 0 6 /40 9 9 1 0 0 /1 0 4 0 0 1 *9 200 0 0 0 *0 1 1 0 1 ",
            "2 1 2 1 2 5 1 0 0 0 12 0 7 /40 9 9 1 0 0 /1 0 3 0 1 1 *9 200 0 0 0 *0 1 1 0 1 ",
            "2 1 2 1 2 5 1 1 0 0 12 0 8 /40 9 9 1 0 0 /1 1 3 0 1 1 *9 200 0 0 0 *0 1 1 0 1 ",
            "2 1 2 1 1 5 1 1 0 0 12 0 8 /40 9 9 1 0 -1 /1 1 3 0 1 1 *9 200 -1 0 0 *0 1 1 0 1 ",
            "2 1 2 1 1 5 1 1 1 0 12 0 8 /40 9 9 1 0 -1 /1 1 3 0 1 1 *9 200 -1 0 0 *0 1 1 0 1 ",
            "2 1 2 1 0 5 1 1 1 0 12 0 8 /40 9 9 1 0 -1 /1 1 3 0 1 -1 *9 200 -1 0 0 *0 1 -1 0 1 "};
        for (int order = 0; order < texts.length; order++) {
            Checks.due("29: " + texts[order], 1, Checks.runText(x, texts[order]));
            Checks.due("29: behind " + texts[order], states[order], Checks.state(x));
        }
    }

    /** The run of this text throws just this exception, empties the input and changes nothing else. */
    private static void failedRun(TavernStools x, String text, Class<?> want, int position) {
        String before = Checks.state(x);
        Checks.append(x, text);
        String got = "nothing";
        try {
            x.run();
        } catch (RuntimeException e) {
            got = e.getClass().getSimpleName();
        }
        Checks.due("29: " + text, want.getSimpleName(), got);
        Checks.due("29: nothing of it, and no input, " + text, before, Checks.state(x));
        Checks.due("30: the error position, " + text, position, x.errorPosition());
    }

    private static void refusedRun(TavernStools x, String text, int reason, int detail) {
        failedRun(x, text, UnsupportedOperationException.class, -1);
        Checks.due("29: reason, " + text, reason, x.refusal(false));
        Checks.due("29: detail, " + text, detail, x.refusal(true));
    }

    private static void wrongRun(TavernStools x, String text, int position) {
        failedRun(x, text, IllegalArgumentException.class, position);
    }

    private static TavernStools seated() {
        TavernStools x = tavern();
        x.sit(0, 0);
        return x;
    }

    private static void runRefused() {
        refusedRun(seated(), "n;p1>1", 3, 1);
        refusedRun(seated(), "p2>0;p9>9", 2, 0);
        refusedRun(seated(), "p0>0", 4, 0);
        refusedRun(seated(), "u1", 4, 1);
        refusedRun(seated(), "c2", 6, 0);
        refusedRun(seated(), "c1;c1;c1;c1;c1;c1;c1", 5, 6);
        refusedRun(seated(), "u0;p0>1;b0-0", 8, 1);
        refusedRun(seated(), "k1;k1;k1;k1;k1;k1;k1;k1;k1;k1", 1, 12);
        refusedRun(seated(), "s1/00;s1/00;s1/00;s1/00;s1/00;s1/00;s1/00;s1/00;s1/00;s1/00", 1, 12);
    }

    private static void runWrong() {
        String[] texts = {"s0/00", "s41/00", "n;n;s00/99|", "g0*1", "g1*0", "g1*201", "k0", "k201", "k999", "p3>0",
            "p0>3", "p99>99", "u3", "c3", "b3-0", "b0-3", "b1-0", "k5;n;u4;p1>1"};
        for (String text : texts) {
            wrongRun(tavern(), text, -1);
        }
        refusedRun(seated(), "p0>0;k0", 4, 0);
        wrongRun(seated(), "k0;p0>0", -1);
        wrongRun(seated(), "k5;p0>0;", 8);
    }

    private static void errorPositions() {
        TavernStools x = tavern();
        Checks.due("30: run has not been called", -1, x.errorPosition());
        String[] texts = {"", "x", ";", "n;", "nn", "n;;", "N", " n", "n ", "s", "sx", "s1", "s123/00", "s1/", "s1/0",
            "s1/0x", "s1/00x", "s1/000", "s1/00||", "s1|00", "g", "g12", "g1*", "g1*1234", "g1*x", "g*1", "k", "k1234",
            "kx", "k-1", "p", "p1", "p123", "p1>", "p1>123", "p1>x", "p>1", "u", "u123", "ux", "c", "c123", "b1",
            "b1-", "b1-123", "b12>", "b-1", "n;s10/00|;k1;p1>0;q", "n,n", "s1/00|;", "u1\u00b2", "u\u0663"};
        int[] positions = {0, 0, 0, 2, 1, 2, 0, 0, 1, 1, 1, 2, 3, 3, 4,
            4, 5, 5, 6, 2, 1, 2, 3, 6, 3, 1, 1, 4,
            1, 1, 1, 2, 3, 3, 5, 3, 1, 1, 3, 1, 1, 3, 2,
            3, 5, 3, 1, 18, 1, 7, 2, 1};
        Checks.due("30: as many", texts.length, positions.length);
        for (int text = 0; text < texts.length; text++) {
            TavernStools fresh = tavern();
            wrongRun(fresh, texts[text], positions[text]);
        }
        wrongRun(x, "n;", 2);
        Checks.runText(x, "n;n");
        Checks.due("30: of the latest run", -1, x.errorPosition());
        wrongRun(x, "n;", 2);
        x.undo();
        Checks.due("30: not undone", 2, x.errorPosition());
    }

    private static void refusal() {
        TavernStools x = tavern();
        Checks.thrown(x, "31: nothing was refused", NoSuchElementException.class, () -> x.refusal(true));
        Checks.thrown(x, "31: no refusal", IndexOutOfBoundsException.class, () -> x.coin(9));
        Checks.refused(x, "31: refused", 4, 2, () -> x.getUp(2));
        x.save();
        x.coin(0);
        Checks.refused(x, "31: the latest", 6, 0, () -> x.coin(2));
        x.undo();
        Checks.due("31: not undone", 6, x.refusal(false));
        x.restore();
        Checks.due("31: not restored", 6, x.refusal(false));
        x.sit(0, 0);
        Checks.runText(x, "n;u0");
        Checks.append(x, "n;u0;");
        Twins.outcome(x, TavernStools::run);
        Checks.due("31: stays behind changes and wrong texts", 0, x.refusal(true));
        Checks.due("31: asking leaves it", 6, x.refusal(false));
    }

    private static void account() {
        TavernStools x = tavern();
        x.sit(0, 0);
        x.sit(1, 2);
        x.coin(1);
        x.coin(1);
        x.night();
        x.brawl(0, 2);
        x.append('n');
        int[] want = {3, 1, 3, 1, 2, 4, 2, 1, 1, 0, 10, 1, 8};
        for (int what = 0; what <= 12; what++) {
            Checks.due("32: account(" + what + ")", want[what], x.account(what));
        }
        x.getUp(1);
        x.sit(2, 2);
        x.takeCoin(1);
        x.coin(2);
        x.night();
        x.undo();
        Checks.due("32: coins that nights brought, undone", 0, x.account(9));
    }

    private static void isWell() {
        TavernStools x = tavern();
        Checks.due("33: all is well", true, x.isWell());
        x.sit(0, 1);
        x.sit(1, 0);
        x.coin(0);
        x.night();
        x.brawl(0, 2);
        Checks.due("33: all is well", true, x.isWell());
        Checks.due("33: all is well undone", true, x.undo() > 0 && x.isWell());
    }

    private static void meanHeight() {
        TavernStools x = tavern();
        Checks.thrown(x, "34: nobody sits", ArithmeticException.class, () -> x.meanHeight());
        x.sit(0, 0);
        Checks.due("34: one sits", 10.0, x.meanHeight());
        x.sit(1, 2);
        Checks.due("34: two sit", 9.0, x.meanHeight());
        x.sit(2, 1);
        Checks.due("34: three sit", 16.0, x.meanHeight());
        x.stool(11, 0, 0, false);
        x.sit(2, 3);
        Checks.due("34: a fraction", 29.0 / 3.0, x.meanHeight());
    }

    private static void undo() {
        TavernStools x = new TavernStools();
        Checks.thrown(x, "35: no change", IllegalStateException.class, () -> x.undo());
        for (int change = 0; change < 11; change++) {
            x.guest(1, 1 + change);
        }
        Twins.outcome(x, y -> y.getUp(0));
        Twins.outcome(x, y -> y.guest(0, 0));
        for (int left = 7; left >= 0; left--) {
            Checks.due("35: undo, a refusal or a wrong call is no change", left, x.undo());
            Checks.due("35: as it was", left + 3, x.account(2));
        }
        Checks.thrown(x, "35: no ninth", IllegalStateException.class, () -> x.undo());
        Checks.due("35: anew", 3, x.guest(1, 1));
        Checks.due("35: undo anew", 0, x.undo());
    }

    private static void undoes(TavernStools x, String change, Consumer<TavernStools> act) {
        String before = stateWithoutUndo(x);
        act.accept(x);
        Checks.due("35: a change by " + change, false, before.equals(stateWithoutUndo(x)));
        x.undo();
        Checks.due("35: undone " + change, before, stateWithoutUndo(x));
        x.save();
        act.accept(x);
        x.restore();
        Checks.due("37: restored " + change, before, stateWithoutUndo(x));
    }

    /** The state but for how many changes can be undone, the last one of the accounts. */
    private static String stateWithoutUndo(TavernStools x) {
        return Checks.state(x).replaceFirst("^((\\d+ ){12})\\d+ ", "$1");
    }

    private static TavernStools worn() {
        TavernStools x = tavern();
        x.sit(0, 1);
        x.sit(1, 0);
        x.coin(0);
        return x;
    }

    private static void undoOfEachChange() {
        undoes(worn(), "stool", x -> x.stool(1, 2, 3, true));
        undoes(worn(), "guest", x -> x.guest(1, 2));
        undoes(worn(), "cat", x -> x.cat(3));
        undoes(worn(), "sit", x -> x.sit(2, 2));
        undoes(worn(), "getUp", x -> x.getUp(1));
        undoes(worn(), "coin", x -> x.coin(1));
        undoes(worn(), "takeCoin", x -> x.takeCoin(0));
        undoes(worn(), "brawl", x -> x.brawl(0, 2));
        undoes(worn(), "night", x -> x.night());
        TavernStools three = worn();
        three.sit(2, 2);
        undoes(three, "swap", x -> x.swap(0, 2));
    }

    private static void saveAndRestore() {
        TavernStools x = tavern();
        Checks.thrown(x, "37: no snapshot", IllegalStateException.class, () -> x.restore());
        x.sit(0, 0);
        String saved = Checks.state(x).replaceFirst("7 /", "0 /");
        Checks.due("36: save", 3, x.save());
        Checks.due("36: undo stays", 7, x.account(12));
        x.night();
        x.cat(9);
        x.undo();
        x.append('n');
        x.cat(9);
        Checks.due("37: restore", 3, x.restore());
        Checks.thrown(x, "37: restore forgets all changes", IllegalStateException.class, () -> x.undo());
        Checks.due("37: the input stays", 1, x.account(11));
        Checks.due("37: run of the input", 1, x.run());
        x.guest(1, 1);
        Checks.due("37: the snapshot stays", 3, x.restore());
        Checks.due("37: as it was", saved, Checks.state(x));
        x.guest(1, 1);
        Checks.due("36: in place of an earlier one", 4, x.save());
        x.undo();
        Checks.due("37: the later one", 4, x.restore());
    }
}
