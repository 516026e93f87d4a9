import java.util.NoSuchElementException;

/** Promises 9 to 14. */
public final class CanonTest {
    public static void main(String[] args) {
        clashes();
        clash();
        brawl();
        brawlOfCats();
        wouldMove();
        swap();
        bestSwap();
        bestSwapOfSeveral();
        Checks.end();
    }

    /** Stools of the heights 10, 20, 20 (bar), 30; guests of ranks 9, 5, 5 and a cat. */
    private static TavernStools tavern() {
        TavernStools x = new TavernStools();
        x.stool(10, 0, 0, false);
        x.stool(20, 0, 0, false);
        x.stool(20, 0, 0, true);
        x.stool(30, 0, 0, false);
        x.guest(9, 50);
        x.guest(5, 60);
        x.guest(5, 70);
        x.cat(10);
        return x;
    }

    private static void bothWays(TavernStools x, int want) {
        Checks.due("9: clashes pair by pair", want, x.clashes(false));
        Checks.due("9: clashes stool by stool", want, x.clashes(true));
    }

    private static void clashes() {
        TavernStools x = tavern();
        bothWays(x, 0);
        x.sit(0, 0);
        bothWays(x, 0);
        x.sit(1, 1);
        bothWays(x, 1);
        x.sit(2, 2);
        bothWays(x, 2);
        x.sit(3, 3);
        bothWays(x, 5);
        x.getUp(0);
        bothWays(x, 2);
    }

    private static void clash() {
        TavernStools x = tavern();
        x.sit(0, 0);
        Checks.due("10: one stands", false, x.clash(0, 1));
        x.sit(1, 1);
        x.sit(2, 3);
        Checks.due("10: the greater rank first", true, x.clash(0, 1));
        Checks.due("10: the greater rank second", true, x.clash(1, 0));
        Checks.due("10: one rank", false, x.clash(1, 2));
        Checks.due("10: with oneself", false, x.clash(0, 0));
        x.sit(0, 2);
        bothWays(x, 1);
        Checks.due("10: one height", false, x.clash(0, 1));
        Checks.due("10: the lower rank higher", true, x.clash(2, 0));
    }

    private static void brawl() {
        TavernStools x = tavern();
        Checks.refused(x, "11: nobody sits at all", 8, 0, () -> x.brawl(0, 3));
        x.sit(0, 0);
        x.sit(1, 1);
        Checks.refused(x, "11: nobody sits there, two elsewhere", 8, 2, () -> x.brawl(2, 3));
        Checks.due("11: one in a place of its own", 0, x.brawl(0, 0));
        Checks.due("11: only those between", 2, x.brawl(0, 1));
        Checks.due("11: the greater rank higher", 1, x.sitterOf(0, 2));
        x.sit(2, 3);
        Checks.due("11: all", 3, x.brawl(0, 3));
        Checks.due("11: the greatest rank on the highest", 3, x.sitterOf(0, 2));
        Checks.due("11: the heavier first, the lowest number", 1, x.sitterOf(2, 2));
        Checks.due("11: the lighter then", 2, x.sitterOf(1, 2));
        Checks.due("11: brawls are counted", 3, x.account(8));
        x.getUp(1);
        Checks.thrown(x, "11: the other ahead of the one", IllegalArgumentException.class, () -> x.brawl(2, 1));
        Checks.thrown(x, "11: so too where nobody sits", IllegalArgumentException.class, () -> x.brawl(2, 0));
    }

    private static void brawlOfCats() {
        TavernStools x = new TavernStools();
        x.stool(10, 0, 0, true);
        x.stool(30, 0, 0, false);
        x.stool(20, 0, 0, false);
        x.guest(3, 50);
        x.cat(10);
        x.cat(20);
        x.sit(0, 0);
        x.sit(1, 1);
        x.sit(2, 2);
        Checks.due("11: who finds none stands", 2, x.brawl(0, 2));
        Checks.due("11: the guest on the highest", 1, x.sitterOf(0, 2));
        Checks.due("11: the lighter cat stands", -1, x.sitterOf(1, 2));
        Checks.due("11: the heavier cat stays", 2, x.sitterOf(2, 2));
        Checks.due("11: the bar is free", -1, x.stoolOf(0, 5));

        TavernStools even = new TavernStools();
        even.stool(5, 0, 0, false);
        even.stool(5, 0, 0, false);
        even.guest(1, 9);
        even.guest(1, 9);
        even.sit(1, 0);
        even.sit(0, 1);
        Checks.due("11: of even ones the lowest first", 2, even.brawl(0, 1));
        Checks.due("11: on the lowest number", 0, even.stoolOf(0, 5));
    }

    private static void wouldMove() {
        TavernStools empty = new TavernStools();
        Checks.due("12: no stools", 0, empty.wouldMove());
        TavernStools x = tavern();
        Checks.due("12: nobody sits", 0, x.wouldMove());
        x.sit(0, 0);
        x.sit(1, 1);
        x.sit(3, 3);
        String before = Checks.state(x);
        Checks.due("12: wouldMove", 2, x.wouldMove());
        Checks.due("12: nothing is changed", before, Checks.state(x));
        Checks.due("12: as a brawl tells", 2, x.brawl(0, 3));
        Checks.due("12: none behind a brawl", 0, x.wouldMove());
        bothWays(x, 0);
    }

    private static void swap() {
        TavernStools x = tavern();
        x.sit(0, 0);
        Checks.refused(x, "13: the one stands", 4, 1, () -> x.swap(1, 0));
        Checks.refused(x, "13: the other stands", 4, 1, () -> x.swap(0, 1));
        x.sit(1, 2);
        x.sit(3, 3);
        Checks.refused(x, "13: a cat at the bar", 3, 2, () -> x.swap(1, 3));
        Checks.due("13: swap", 2, x.swap(0, 1));
        Checks.due("13: the one sits there", 2, x.sitterOf(0, 2));
        Checks.due("13: the other sits here", 1, x.stoolOf(0, 5));
        Checks.due("13: swap with a cat", 1, x.swap(3, 1));
    }

    private static void best(TavernStools x, int first, int second) {
        Checks.due("14: the first of the best swap", first, x.bestSwap(false));
        Checks.due("14: the second of the best swap", second, x.bestSwap(true));
    }

    private static void bestSwap() {
        TavernStools x = tavern();
        Checks.thrown(x, "14: nobody sits", NoSuchElementException.class, () -> x.bestSwap(false));
        x.sit(3, 3);
        x.sit(1, 2);
        Checks.thrown(x, "14: a cat cannot go to the bar", NoSuchElementException.class, () -> x.bestSwap(true));
        x.sit(0, 0);
        String before = Checks.state(x);
        best(x, 0, 3);
        Checks.due("14: nothing is changed", before, Checks.state(x));
        x.swap(0, 3);
        Checks.thrown(x, "14: no clash is left", NoSuchElementException.class, () -> x.bestSwap(false));
    }

    private static TavernStools row(int[] heights, int[] ranks) {
        TavernStools x = new TavernStools();
        for (int height : heights) {
            x.stool(height, 0, 0, false);
        }
        for (int sitter = 0; sitter < ranks.length; sitter++) {
            x.guest(ranks[sitter], 9);
            x.sit(sitter, sitter);
        }
        return x;
    }

    private static void bestSwapOfSeveral() {
        TavernStools x = row(new int[] {1, 2, 3, 4}, new int[] {2, 1, 2, 1});
        bothWays(x, 3);
        best(x, 0, 3);
        x.getUp(3);
        x.getUp(2);
        best(x, 0, 1);
        x.sit(3, 2);
        best(x, 0, 3);
        best(row(new int[] {1, 2, 2}, new int[] {2, 1, 1}), 0, 1);
        best(row(new int[] {2, 2, 1}, new int[] {1, 1, 2}), 0, 2);
        best(row(new int[] {1, 1, 2, 2}, new int[] {2, 2, 1, 1}), 0, 2);
        TavernStools cat = new TavernStools();
        cat.stool(2, 0, 0, false);
        cat.stool(1, 0, 0, true);
        cat.cat(9);
        cat.guest(1, 9);
        cat.sit(0, 0);
        cat.sit(1, 1);
        Checks.thrown(cat, "14: a cat as the first one", NoSuchElementException.class, () -> cat.bestSwap(false));
        TavernStools even = row(new int[] {2, 2, 1, 3}, new int[] {5, 5, 5, 5});
        Checks.thrown(even, "14: no swap leaves fewer", NoSuchElementException.class, () -> even.bestSwap(false));
    }
}
