import java.util.function.Supplier;

/** Edges of lines, of the input and of texts, with the error position of each. */
public final class TextEdgesTest {
    private static final String DIGITS = "0123456789";

    /** What may stand first in a text, then what may follow on what: all else cannot continue a text. */
    private static final String[][] FOLLOWS = {
        {"", "sgkpucbn"},
        {"s", DIGITS}, {"s4", DIGITS + "/"}, {"s40", "/"}, {"s4/", DIGITS}, {"s40/", DIGITS}, {"s40/9", DIGITS},
        {"s40/99", "|;"}, {"s40/99|", ";"},
        {"g", DIGITS}, {"g9", "*"}, {"g9*", DIGITS}, {"g9*2", DIGITS + ";"}, {"g9*20", DIGITS + ";"}, {"g9*200", ";"},
        {"k", DIGITS}, {"k2", DIGITS + ";"}, {"k20", DIGITS + ";"}, {"k200", ";"},
        {"p", DIGITS}, {"p1", DIGITS + ">"}, {"p11", ">"}, {"p1>", DIGITS}, {"p11>", DIGITS}, {"p1>1", DIGITS + ";"},
        {"p1>11", ";"}, {"p11>11", ";"},
        {"u", DIGITS}, {"u1", DIGITS + ";"}, {"u11", ";"},
        {"c", DIGITS}, {"c1", DIGITS + ";"}, {"c11", ";"},
        {"b", DIGITS}, {"b1", DIGITS + "-"}, {"b11", "-"}, {"b1-", DIGITS}, {"b11-", DIGITS}, {"b1-1", DIGITS + ";"},
        {"b1-11", ";"}, {"b11-11", ";"},
        {"n", ";"},
        {"n;", "sgkpucbn"}, {"s4/00|;", "sgkpucbn"}, {"k1;n;", "sgkpucbn"}, {"n;n", ";"}};

    private static final String ENDS = "s4/00 s40/99| s40/99 g9*2 g9*20 g9*200 k2 k20 k200 p1>1 p11>1 p1>11 p11>11 "
            + "u1 u11 c1 c11 b1-1 b11-1 b1-11 b11-11 n n;n k1;n s4/00|;n n;s4/00|";

    public static void main(String[] args) {
        lineOfTheRow();
        lineOfAStool();
        lineStays();
        sixtyCharacters();
        textOfSixty();
        whatMayFollow();
        whereATextMayEnd();
        eachPrefixOfALongText();
        positionOfTheLatest();
        numbersOutOfRange();
        numbersInRange();
        leadingNoughts();
        oneAfterTheOther();
        nothingOfIt();
        firstThatCannotBe();
        errorAheadOfOrders();
        eachReason();
        fullByTexts();
        runIsOneChange();
        Checks.end();
    }

    /** Two stools, the second at the bar; a guest on the first, a cat stands; one coin lies, one change is undone. */
    private static TavernStools tavern() {
        TavernStools x = new TavernStools();
        x.stool(10, 3, 2, false);
        x.stool(30, 9, 9, true);
        x.guest(3, 101);
        x.save();
        x.cat(150);
        x.sit(0, 0);
        x.coin(1);
        x.night();
        x.undo();
        x.stoolLine(1);
        return x;
    }

    private static String written(TavernStools x, int length) {
        String line = Checks.lineOf(x, length);
        Checks.due("27: the line ends there", line, Twins.writtenLine(x));
        return line;
    }

    private static void lineOfTheRow() {
        TavernStools x = new TavernStools();
        Checks.due("25: no stools", "", written(x, x.line()));
        x.guest(1, 1);
        Checks.due("25: a sitter, no stool", "", written(x, x.line()));
        x.stool(1, 1, 1, true);
        Checks.due("25: a free one at the bar", "|.", written(x, x.line()));
        x.sit(0, 0);
        Checks.due("25: a guest at the bar", "|a", written(x, x.line()));
        TavernStools bar = new TavernStools();
        TavernStools cats = new TavernStools();
        for (int number = 0; number < 12; number++) {
            bar.stool(1, 0, 0, true);
            bar.guest(1, 1);
            cats.stool(1, 0, 0, false);
            cats.cat(1);
            cats.sit(number, number);
        }
        Checks.due("25: twelve free ones at the bar", "|.|.|.|.|.|.|.|.|.|.|.|.", written(bar, bar.line()));
        for (int number = 0; number < 12; number++) {
            bar.sit(number, 11 - number);
        }
        Checks.due("25: twelve at the bar", "|l|k|j|i|h|g|f|e|d|c|b|a", written(bar, bar.line()));
        Checks.due("25: twelve cats", "ABCDEFGHIJKL", written(cats, cats.line()));
    }

    private static void lineOfAStool() {
        TavernStools x = new TavernStools();
        int[][] all = {{1, 0, 0}, {9, 1, 1}, {10, 9, 9}, {40, 9, 0}, {39, 0, 9}};
        String[] want = {"0^1~0", "1^9~1'", "2^10~9'''''''''", "3^40~0'''''''''", "4^39~9"};
        for (int stool = 0; stool < all.length; stool++) {
            x.stool(all[stool][0], all[stool][1], all[stool][2], stool == 1);
            Checks.due("26: stool " + stool, want[stool], written(x, x.stoolLine(stool)));
        }
        for (int number = 5; number < 12; number++) {
            x.stool(number, 1, 1, false);
        }
        Checks.due("26: the last of one digit", "9^9~1'", written(x, x.stoolLine(9)));
        Checks.due("26: the first of two digits", "10^10~1'", written(x, x.stoolLine(10)));
        Checks.due("26: the last stool", "11^11~1'", written(x, x.stoolLine(11)));
        x.coin(11);
        Checks.due("26: one coin, one wobble less", "11^11~0'o", written(x, x.stoolLine(11)));
        for (int coins = 0; coins < 5; coins++) {
            x.coin(4);
        }
        Checks.due("26: five coins, no squeak", "4^39~4ooooo", written(x, x.stoolLine(4)));
        x.guest(1, 1);
        x.sit(0, 4);
        Checks.due("26: who sits there does not show", "4^39~4ooooo", written(x, x.stoolLine(4)));
        x.takeCoin(11);
        x.coin(2);
        Checks.due("26: as told", "2^10~8'''''''''o", written(x, x.stoolLine(2)));
    }

    private static void lineStays() {
        TavernStools x = tavern();
        String line = Twins.writtenLine(x);
        Checks.due("27: the line", "1^30~8'''''''''o", line);
        Twins.outcome(x, y -> y.stoolLine(2));
        x.undo();
        x.undo();
        x.restore();
        x.save();
        x.stool(1, 1, 1, true);
        Checks.runText(x, "n;n");
        Checks.due("27: neither undone nor saved, and stays", line, Twins.writtenLine(x));
        Checks.due("25: three stools", 5, x.line());
        line = Twins.writtenLine(x);
        x.restore();
        Checks.due("27: not restored", line, Twins.writtenLine(x));
        Checks.due("25: two stools", 3, x.line());
    }

    private static void sixtyCharacters() {
        TavernStools x = new TavernStools();
        for (int turn = 0; turn < 3; turn++) {
            for (int count = 1; count <= 60; count++) {
                Checks.due("28: the characters then", count, x.append("n;".charAt((count + 1) % 2)));
            }
            Checks.due("28: no more", "IllegalStateException", Twins.outcome(x, y -> y.append('n')));
            Checks.due("11 for the characters in the input", 60, x.account(11));
            Checks.due("28: it stays so", "IllegalStateException", Twins.outcome(x, y -> y.append('n')));
            Checks.due("29: its end is missing", "IllegalArgumentException", Twins.outcome(x, TavernStools::run));
            Checks.due("30: the length of the text", 60, x.errorPosition());
            Checks.due("29: the input is empty afterwards", 0, x.account(11));
        }
        Supplier<TavernStools> full = () -> {
            TavernStools y = tavern();
            Checks.append(y, "n;".repeat(29) + "n");
            y.append(';');
            return y;
        };
        for (char c : new char[] {'n', ';', ' ', (char) 0, (char) 255, (char) 65535}) {
            Twins.thrown("28: 60 characters", IllegalStateException.class, full, y -> y.append(c));
        }
    }

    private static void textOfSixty() {
        String[] texts = {"n;".repeat(28) + "k100", "k100;" + "n;".repeat(27) + "n", "k01;".repeat(4)
            + "k100;".repeat(4) + "n;".repeat(12)};
        int[] orders = {29, 29, 20};
        for (int text = 0; text < 2; text++) {
            TavernStools x = new TavernStools();
            Checks.due("29: of 60 characters, " + texts[text], orders[text], Checks.runText(x, texts[text]));
            Checks.due("29: all nights", 28, x.account(7));
            Checks.due("29: and a cat", 1, x.account(3));
        }
        Checks.due("28: 60 characters", 60, texts[0].length());
        Checks.due("28: 60 characters", 60, texts[2].length());
        failed(texts[2], "IllegalArgumentException", 60);
        TavernStools thirty = new TavernStools();
        Checks.due("29: thirty orders", 30, Checks.runText(thirty, "n;".repeat(29) + "n"));
        Checks.due("29: thirty nights", 30, thirty.account(7));
        failed("n;".repeat(29) + "nn", "IllegalArgumentException", 59);
        failed("n;".repeat(29) + "k", "IllegalArgumentException", 59);
        failed("n;".repeat(29) + "k1", "nothing", -1);
        failed("n;".repeat(29) + "x", "IllegalArgumentException", 58);
        failed("x".repeat(60), "IllegalArgumentException", 0);
        failed(";".repeat(60), "IllegalArgumentException", 0);
        failed("0".repeat(60), "IllegalArgumentException", 0);
    }

    /** The text on a new object answers this, with this error position; what fails leaves all but the input. */
    private static void failed(String text, String want, int position) {
        TavernStools x = tavern();
        String before = stateBeside(x);
        Checks.append(x, text);
        Checks.due("29: " + text, want, Twins.outcome(x, TavernStools::run));
        Checks.due("30: " + text, position, x.errorPosition());
        Checks.due("29: the input is empty behind " + text, 0, x.account(11));
        if (!want.equals("nothing")) {
            Checks.due("29: nothing of it, " + text, before, stateBeside(x));
        }
    }

    private static String stateBeside(TavernStools x) {
        return Checks.state(x) + Twins.writtenLine(x);
    }

    private static void whatMayFollow() {
        for (String[] follow : FOLLOWS) {
            for (int sign = 0; sign <= 260; sign++) {
                follow(follow[0], (char) sign, follow[1]);
            }
            for (char sign : new char[] {0x0130, 0x0160, 0x0173, 0x0660, 0x0669, 0x06f1, 0xff11, 0xff5c, 0x203a, 0xffff}) {
                follow(follow[0], sign, follow[1]);
            }
        }
    }

    private static void follow(String prefix, char sign, String allowed) {
        TavernStools x = new TavernStools();
        Checks.append(x, prefix);
        x.append(sign);
        String got = Twins.outcome(x, TavernStools::run);
        boolean isHere = x.errorPosition() == prefix.length();
        String name = "30: " + prefix + " and the sign " + (int) sign;
        Checks.due(name, allowed.indexOf(sign) < 0, isHere);
        if (isHere) {
            Checks.due(name, "IllegalArgumentException", got);
        } else {
            boolean isEarly = x.errorPosition() == prefix.length() + 1;
            Checks.due(name + " ends too early, or not at all", true, isEarly || x.errorPosition() == -1);
        }
    }

    private static void whereATextMayEnd() {
        for (String[] follow : FOLLOWS) {
            TavernStools x = new TavernStools();
            Checks.append(x, follow[0]);
            String got = Twins.outcome(x, TavernStools::run);
            boolean ends = (" " + ENDS + " ").contains(" " + follow[0] + " ") && !follow[0].isEmpty();
            Checks.due("30: the text " + follow[0], ends ? -1 : follow[0].length(), x.errorPosition());
            Checks.due("29: the text " + follow[0], true, ends || got.equals("IllegalArgumentException"));
        }
        for (String text : ENDS.split(" ")) {
            TavernStools x = new TavernStools();
            Checks.append(x, text);
            Twins.outcome(x, TavernStools::run);
            Checks.due("30: no error in " + text, -1, x.errorPosition());
        }
    }

    private static void eachPrefixOfALongText() {
        String text = "s40/99|;g9*200;k007;p00>01;p1>1;u0;c0;b0-1;n;s1/00";
        int[] ends = {6, 7, 12, 13, 14, 17, 18, 19, 25, 26, 31, 34, 37, 42, 44, 50};
        for (int length = 0; length <= text.length(); length++) {
            boolean isEnd = false;
            for (int end : ends) {
                isEnd |= end == length;
            }
            TavernStools x = new TavernStools();
            Checks.append(x, text.substring(0, length));
            Twins.outcome(x, TavernStools::run);
            Checks.due("30: the first " + length, isEnd ? -1 : length, x.errorPosition());
        }
    }

    private static void positionOfTheLatest() {
        TavernStools x = tavern();
        Checks.due("30: run has not been called", -1, x.errorPosition());
        Twins.outcome(x, TavernStools::run);
        Checks.due("30: the empty text", 0, x.errorPosition());
        Checks.append(x, "n;q");
        Checks.due("30: still of the latest call of run", 0, x.errorPosition());
        Twins.outcome(x, TavernStools::run);
        Checks.due("30: of the latest one", 2, x.errorPosition());
        x.undo();
        x.save();
        x.restore();
        Checks.due("30: neither undone nor saved", 2, x.errorPosition());
        Checks.append(x, "k0");
        Checks.due("29: out of range", "IllegalArgumentException", Twins.outcome(x, TavernStools::run));
        Checks.due("29: the text has no error", -1, x.errorPosition());
        Twins.outcome(x, TavernStools::run);
        Checks.append(x, "u2");
        Twins.outcome(x, TavernStools::run);
        Checks.due("29: the text has no error", -1, x.errorPosition());
        Twins.outcome(x, TavernStools::run);
        Checks.append(x, "u1");
        Checks.due("29: is refused", "UnsupportedOperationException", Twins.outcome(x, TavernStools::run));
        Checks.due("29: the text has no error", -1, x.errorPosition());
    }

    private static void numbersOutOfRange() {
        String[] texts = {"s0/00", "s41/00", "s00/99", "s99/99|", "g0*1", "g1*0", "g1*201", "g0*000", "g9*999", "k0",
            "k00", "k000", "k201", "k999", "p2>0", "p0>2", "p12>0", "p0>12", "p99>99", "u2", "u12", "u99", "c2", "c12",
            "c99", "b2-0", "b0-2", "b2-2", "b1-0", "b01-00", "b99-99", "b12-11"};
        for (String text : texts) {
            failed(text, "IllegalArgumentException", -1);
            failed("n;" + text + ";n", "IllegalArgumentException", -1);
        }
    }

    private static void numbersInRange() {
        TavernStools x = new TavernStools();
        String[] texts = {"s1/00", "s40/99|", "s01/09", "g1*1", "g9*200", "k1", "k200", "p0>0", "p2>2", "c1", "b0-2",
            "b0-0", "u0"};
        for (String text : texts) {
            Checks.due("29: " + text, 1, Checks.runText(x, text));
        }
        Checks.due("29: what they did", "3 1 4 2 1 5 1 0 2 0 17 0 8 /1 0 0 0 0 2 /40 9 8 1 1 -1 /1 0 9 0 0 -1 "
                + "*1 1 -1 0 0 *9 200 -1 0 0 *0 1 0 0 1 *0 200 -1 0 1 ", Checks.state(x));
    }

    private static void leadingNoughts() {
        TavernStools x = new TavernStools();
        Checks.due("29: noughts ahead", 7, Checks.runText(x, "s07/07;s08/01|;g1*007;k020;p00>01;p01>00;c01"));
        Checks.due("29: noughts ahead", "B|a", Checks.lineOf(x, x.line()));
    }

    private static void oneAfterTheOther() {
        TavernStools x = new TavernStools();
        Checks.due("29: later orders use earlier ones", 6, Checks.runText(x, "s9/11;s8/02|;g1*9;k5;p1>0;p0>1"));
        Checks.due("29: later orders use earlier ones", 6, Checks.runText(x, "u1;p0>0;c1;c1;b0-1;u0"));
        Checks.due("29: as the methods would", ".|.", Checks.lineOf(x, x.line()));
        Checks.due("29: as the methods would", "1^8~0oo", Checks.lineOf(x, x.stoolLine(1)));
        Checks.due("29: brawls in texts count", 1, x.account(8));
        TavernStools none = new TavernStools();
        Checks.append(none, "p0>0;s9/11;g1*9");
        Checks.due("29: earlier orders cannot", "IllegalArgumentException", Twins.outcome(none, TavernStools::run));
    }

    private static void nothingOfIt() {
        String[] texts = {"s1/00;g1*1;k1;u0;p0>1;c1;b0-1;n;k0", "n;k1;p1>1", "s1/00|;g1*1;k1;u0;c1;b0-1",
            "n;n;n;u1"};
        for (String all : texts) {
            TavernStools x = tavern();
            Checks.append(x, all);
            String got = Twins.outcome(x, TavernStools::run);
            Checks.due("29: cannot be, " + all, false, got.equals("nothing"));
            Twins.staysAsItWas("29: nothing of " + all, TextEdgesTest::tavern, y -> {
                Checks.append(y, all);
                y.run();
            });
        }
    }

    private static void reason(String text, String want) {
        TavernStools x = tavern();
        Checks.append(x, text);
        Checks.due("29: " + text, "UnsupportedOperationException", Twins.outcome(x, TavernStools::run));
        Checks.due("31: " + text, want, Twins.reasonOf(x));
        failed(text, "UnsupportedOperationException", -1);
    }

    private static void firstThatCannotBe() {
        reason("n;u1;k0", "4 1");
        reason("p1>1;u1;p0>0", "3 1");
        reason("u0;u0;p9>9", "4 0");
        failed("k0;u1", "IllegalArgumentException", -1);
        failed("n;p9>9;u1", "IllegalArgumentException", -1);
        TavernStools x = tavern();
        Checks.append(x, "k0;u1");
        Twins.outcome(x, TavernStools::run);
        Checks.due("31: the second was not tried", "NoSuchElementException", Twins.reasonOf(x));
    }

    private static void errorAheadOfOrders() {
        TavernStools x = tavern();
        Checks.append(x, "u1;");
        Checks.due("29: the error first", "IllegalArgumentException", Twins.outcome(x, TavernStools::run));
        Checks.due("30: the error first", 3, x.errorPosition());
        Checks.due("31: nothing was refused", "NoSuchElementException", Twins.reasonOf(x));
        failed("u1;q", "IllegalArgumentException", 3);
        failed("k0;k1;k", "IllegalArgumentException", 7);
    }

    private static void eachReason() {
        reason("k1;k1;k1;k1;k1;k1;k1;k1;k1;k1;k1", "1 12");
        reason("k1;k1;k1;k1;k1;k1;k1;k1;k1;k1;g1*1", "1 12");
        reason("p1>0", "2 0");
        reason("p1>1", "3 1");
        reason("p0>0", "4 0");
        reason("u1", "4 1");
        reason("c1;c1;c1;c1;c1;c1", "5 6");
        reason("c0;c0;c0", "6 2");
        reason("b1-1", "8 1");
        reason("u0;b0-1", "8 0");
    }

    /** More stools than one text can set: two texts. */
    private static void fullByTexts() {
        TavernStools x = new TavernStools();
        String ten = "s1/00;".repeat(9) + "s1/00|";
        Checks.due("29: ten stools", 10, Checks.runText(x, ten));
        Checks.append(x, "s1/00;s1/00;s1/00");
        Checks.due("29: the third is the thirteenth", "UnsupportedOperationException",
                Twins.outcome(x, TavernStools::run));
        Checks.due("31: full", "1 12", Twins.reasonOf(x));
        Checks.due("29: nothing of it", 10, x.account(0));
        Checks.due("29: twelve", 2, Checks.runText(x, "s1/00;s40/99|"));
        Checks.append(x, "s41/00");
        Checks.due("29: wrong ahead of full", "IllegalArgumentException", Twins.outcome(x, TavernStools::run));
        Checks.due("29: twelve sitters, too", 12, Checks.runText(x, "k1;k1;k1;k1;k1;k1;k1;k1;k1;k1;k1;g1*1"));
        Checks.append(x, "g1*1");
        Checks.due("29: a thirteenth sitter", "UnsupportedOperationException", Twins.outcome(x, TavernStools::run));
        Checks.due("29: the last numbers", 2, Checks.runText(x, "p11>11;b11-11"));
        Checks.due("25: the last one on the last stool", 'l', x.character(x.line() - 1));
    }

    private static void runIsOneChange() {
        TavernStools x = tavern();
        String before = Checks.lineOf(x, x.line());
        int undoable = x.account(12);
        Checks.due("29: orders", 4, Checks.runText(x, "u0;k1;p2>0;n"));
        Checks.due("12 for the changes: one more", undoable + 1, x.account(12));
        Checks.due("35: all of it is undone", undoable, x.undo());
        Checks.due("35: as before", before, Checks.lineOf(x, x.line()));
        Checks.due("35: no sitter more", 2, x.account(2));
        Checks.append(x, "u0;u0");
        Twins.outcome(x, TavernStools::run);
        Checks.due("35: a refused text is no change", undoable, x.account(12));
        Checks.append(x, "n;");
        Twins.outcome(x, TavernStools::run);
        Checks.due("35: a text with an error is none", undoable, x.account(12));
    }
}
