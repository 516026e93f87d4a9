import java.util.NoSuchElementException;

/** Edges of the canon: clashes, brawls, swaps, and the orders by tilt and by rank. */
public final class CanonEdgesTest {
    public static void main(String[] args) {
        clashesOfTwo();
        clashesWhereOneStands();
        mostClashes();
        clashesOfEmptyTaverns();
        brawlEnds();
        brawlOfOneStool();
        brawlOrder();
        brawlAtTheBar();
        whoFindsNoStoolStands();
        whoStandsDoesNotBrawl();
        brawlOfAllEndsClashes();
        wouldMoveEdges();
        swapEdges();
        swapMustLeaveFewer();
        bestOfSeveral();
        bestAmongTheLast();
        standersDoNotSwap();
        catsDoNotSwapToTheBar();
        moreSittersThanStools();
        moreStoolsThanSitters();
        tiltOrder();
        rankOrder();
        Checks.end();
    }

    /** A row of stools with these heights, none at the bar; who has the rank 0 is a cat; each sits by number. */
    private static TavernStools row(int[] heights, int... ranks) {
        TavernStools x = new TavernStools();
        for (int height : heights) {
            x.stool(height, 0, 0, false);
        }
        for (int sitter = 0; sitter < ranks.length; sitter++) {
            come(x, ranks[sitter], 50);
            x.sit(sitter, sitter);
        }
        return x;
    }

    private static int come(TavernStools x, int rank, int weight) {
        return rank == 0 ? x.cat(weight) : x.guest(rank, weight);
    }

    private static int[] heights(int... all) {
        return all;
    }

    private static String seats(TavernStools x) {
        return Checks.lineOf(x, x.line());
    }

    private static void clashesOfTwo() {
        int[][] ranks = {{0, 0}, {0, 1}, {1, 0}, {1, 1}, {1, 2}, {2, 1}, {9, 9}, {9, 8}, {8, 9}, {9, 0}, {0, 9}};
        int[][] high = {{1, 1}, {1, 2}, {2, 1}, {39, 40}, {40, 39}, {40, 40}, {1, 40}, {40, 1}};
        for (int[] r : ranks) {
            for (int[] h : high) {
                TavernStools x = row(h, r);
                boolean want = r[0] > r[1] && h[0] < h[1] || r[1] > r[0] && h[1] < h[0];
                String name = "ranks " + r[0] + " " + r[1] + " on " + h[0] + " " + h[1];
                Checks.due("10: " + name, want, x.clash(0, 1));
                Checks.due("10: the other way, " + name, want, x.clash(1, 0));
                Checks.due("8: of the one, " + name, want ? 1 : 0, x.sitterOf(0, 3));
                Checks.due("8: of the other, " + name, want ? 1 : 0, x.sitterOf(1, 3));
                Checks.due("9: pair by pair, " + name, want ? 1 : 0, x.clashes(false));
                Checks.due("9: stool by stool, " + name, want ? 1 : 0, x.clashes(true));
                Checks.due("10: with oneself, " + name, false, x.clash(0, 0) || x.clash(1, 1));
            }
        }
    }

    private static void clashesWhereOneStands() {
        TavernStools x = row(heights(1, 40), 9, 0);
        Checks.due("10: both sit", true, x.clash(0, 1));
        x.getUp(1);
        Checks.due("10: the other stands", false, x.clash(0, 1) || x.clash(1, 0));
        x.sit(1, 1);
        x.getUp(0);
        Checks.due("10: the one stands", false, x.clash(0, 1) || x.clash(1, 0));
        Checks.due("8: of one who sits, the other stands", 0, x.sitterOf(1, 3));
        x.getUp(1);
        Checks.due("10: both stand", false, x.clash(0, 1) || x.clash(1, 0));
        Checks.due("9: both stand", 0, x.clashes(false) + x.clashes(true));
        Checks.due("5: how many clash then, none sits", 0, x.sit(1, 1));
        Checks.due("5: how many clash then", 1, x.sit(0, 0));
    }

    private static void mostClashes() {
        TavernStools x = row(heights(1, 2, 3, 4, 5, 6, 7, 8, 9, 10, 11, 12), 9, 9, 8, 7, 6, 5, 4, 3, 2, 1, 0, 0);
        Checks.due("9: all but the pairs of one rank", 64, x.clashes(false));
        Checks.due("9: the second way", 64, x.clashes(true));
        Checks.due("8: with all others but one", 10, x.sitterOf(0, 3));
        Checks.due("8: the last one too", 10, x.sitterOf(11, 3));
        Checks.due("8: with all others", 11, x.sitterOf(2, 3));
        x.getUp(2);
        Checks.due("5: with all others", 11, x.sit(2, 2));
        TavernStools one = row(heights(1, 2, 2, 2, 2, 2, 2, 2, 2, 2, 2, 40), 9, 1, 1, 1, 1, 1, 1, 1, 1, 1, 1, 0);
        Checks.due("9: one below all, one above all", 21, one.clashes(false));
        Checks.due("9: the second way", 21, one.clashes(true));
    }

    private static void clashesOfEmptyTaverns() {
        TavernStools x = new TavernStools();
        Checks.due("9: empty", 0, x.clashes(false) + x.clashes(true));
        x.guest(1, 1);
        x.cat(1);
        Checks.due("9: no stools", 0, x.clashes(false) + x.clashes(true));
        Checks.due("33: no stools", true, x.isWell());
        x.stool(1, 1, 1, true);
        Checks.due("9: nobody sits", 0, x.clashes(false) + x.clashes(true));
    }

    private static void brawlEnds() {
        TavernStools x = row(heights(1, 2, 3, 4, 5), 9, 8, 7, 6, 5);
        Checks.due("11: both ends included", 2, x.brawl(1, 3));
        Checks.due("11: from the one to the other", "adcbe", seats(x));
        x.undo();
        Checks.due("11: the first two", 2, x.brawl(0, 1));
        Checks.due("11: the first two", "bacde", seats(x));
        Checks.due("11: the last two", 2, x.brawl(3, 4));
        Checks.due("11: the last two", "baced", seats(x));
        Checks.due("11: all", 4, x.brawl(0, 4));
        Checks.due("11: all", "edcba", seats(x));
        Checks.due("11: nobody moves", 0, x.brawl(0, 4));
        Checks.due("11: the same seats", "edcba", seats(x));
        Checks.due("8 for the brawls so far", 4, x.account(8));
        TavernStools full = row(heights(1, 2, 3, 4, 5, 6, 7, 8, 9, 10, 11, 12), 9, 9, 8, 7, 6, 5, 4, 3, 2, 1, 0, 0);
        Checks.due("11: twelve, all elsewhere", 12, full.brawl(0, 11));
        Checks.due("11: twelve", "LKjihgfedcba", seats(full));
    }

    private static void brawlOfOneStool() {
        TavernStools x = row(heights(1, 2, 3), 5, 5);
        Checks.due("11: from a stool to itself", 0, x.brawl(0, 0));
        Checks.due("11: the same seat", "ab.", seats(x));
        Checks.due("11: so too the last one", 0, x.brawl(1, 1));
        Twins.refused("11: a free one", 8, 2, () -> row(heights(1, 2, 3), 5, 5), y -> y.brawl(2, 2));
    }

    private static void brawlOrder() {
        TavernStools x = new TavernStools();
        for (int height : heights(7, 9, 9, 8, 40, 1)) {
            x.stool(height, 0, 0, false);
        }
        int[][] who = {{5, 60}, {5, 61}, {5, 60}, {6, 1}, {0, 200}, {0, 199}};
        for (int sitter = 0; sitter < who.length; sitter++) {
            come(x, who[sitter][0], who[sitter][1]);
            x.sit(sitter, sitter);
        }
        Checks.due("11: rank, weight, number", 4, x.brawl(0, 3));
        Checks.due("11: the highest, the lowest number", "cdbaEF", seats(x));
        Checks.due("11: all but the lowest one", 5, x.brawl(0, 5));
        Checks.due("11: all", "EbacdF", seats(x));
    }

    private static void brawlAtTheBar() {
        TavernStools x = new TavernStools();
        x.stool(40, 0, 0, true);
        x.stool(10, 0, 0, false);
        x.stool(20, 0, 0, false);
        x.cat(200);
        x.guest(1, 1);
        x.sit(0, 2);
        x.sit(1, 1);
        Checks.due("11: the guest to the bar, the cat stays", 1, x.brawl(0, 2));
        Checks.due("11: no cat at the bar", "|b.A", seats(x));
        x.getUp(1);
        Checks.due("11: a cat alone, the bar is higher", 0, x.brawl(0, 2));
        Checks.due("11: a cat alone", "|..A", seats(x));
    }

    private static void whoFindsNoStoolStands() {
        TavernStools x = new TavernStools();
        x.stool(10, 0, 0, true);
        x.stool(20, 0, 0, false);
        x.stool(5, 0, 0, false);
        x.guest(1, 1);
        x.cat(9);
        x.sit(0, 0);
        x.sit(1, 1);
        Checks.due("12: both would move", 2, x.wouldMove());
        Checks.due("11: one sits elsewhere, one stands", 2, x.brawl(0, 1));
        Checks.due("11: finds none, though there is one outside", "|.a.", seats(x));
        Checks.due("11: stands then", -1, x.sitterOf(1, 2));
        Checks.due("4 for those who sit", 1, x.account(4));
        Checks.due("33: all is well", true, x.isWell());
        x.undo();
        Checks.due("11: all stools, so there is one", 2, x.brawl(0, 2));
        Checks.due("11: the cat on the third one", "|.aB", seats(x));
    }

    private static void whoStandsDoesNotBrawl() {
        TavernStools x = row(heights(1, 2, 3), 1);
        x.guest(9, 200);
        Checks.due("12: one who stands does not count", 1, x.wouldMove());
        Checks.due("11: one who stands does not count", 1, x.brawl(0, 2));
        Checks.due("11: nor does he sit down", "..a", seats(x));
        Checks.due("11: he stands", -1, x.sitterOf(1, 2));
        x.sit(1, 0);
        Checks.due("11: one outside does not count", 0, x.brawl(1, 2));
        Checks.due("11: one outside stays", "b.a", seats(x));
    }

    private static void brawlOfAllEndsClashes() {
        for (int turn = 0; turn < 60; turn++) {
            TavernStools x = new TavernStools();
            for (int number = 0; number < 12; number++) {
                x.stool(1 + (number * 7 + turn * 11) % 40, 0, 0, (number + turn) % 4 == 0);
                come(x, (number * turn + number) % 10, 1 + (number * 37 + turn) % 200);
            }
            for (int sitter = 0; sitter < 12; sitter++) {
                int stool = (sitter * 5 + turn) % 12;
                int number = sitter;
                Twins.outcome(x, y -> y.sit(number, stool));
            }
            int moving = x.wouldMove();
            Checks.due("12: as a brawl of all stools, " + turn, moving, x.brawl(0, 11));
            Checks.due("Terms: nobody clashes then, " + turn, 0, x.clashes(false) + x.clashes(true));
            Checks.due("12: nobody would move then, " + turn, 0, x.wouldMove());
            Checks.due("33: all is well, " + turn, true, x.isWell());
        }
    }

    private static void wouldMoveEdges() {
        Checks.due("12: no stools", 0, new TavernStools().wouldMove());
        Checks.due("12: nobody sits", 0, row(heights(1, 2)).wouldMove());
        TavernStools x = row(heights(2, 1), 1);
        Checks.due("12: on the highest already", 0, x.wouldMove());
        Checks.due("12: of two high ones the first", 0, row(heights(2, 2), 1).wouldMove());
        TavernStools second = row(heights(2, 2));
        second.guest(1, 1);
        second.sit(0, 1);
        Twins.staysAsItWas("12: tells and leaves", () -> row(heights(1, 2, 3), 3, 2, 1), TavernStools::wouldMove);
        Checks.due("12: of two high ones not the second", 1, second.wouldMove());
        Checks.due("12: it is no brawl", 0, second.account(8));
        Checks.due("12: it cannot be refused", "NoSuchElementException", Twins.reasonOf(row(heights(1, 2))));
    }

    private static void swapEdges() {
        TavernStools x = row(heights(1, 2, 3), 2, 1);
        Checks.due("13: how many clash then", 0, x.swap(0, 1));
        Checks.due("13: they have swapped", "ba.", seats(x));
        Checks.due("13: back, the other first", 1, x.swap(1, 0));
        Checks.due("13: as before", "ab.", seats(x));
        TavernStools full = row(heights(1, 2, 3, 4, 5, 6, 7, 8, 9, 10, 11, 12), 1, 2, 3, 4, 5, 6, 7, 8, 9, 9, 9, 9);
        Checks.due("13: the first and the last", 18, full.swap(0, 11));
        Checks.due("13: the first and the last", "lbcdefghijka", seats(full));
    }

    private static void swapMustLeaveFewer() {
        none("14: no stools, no sitters", new TavernStools());
        none("14: one sits", row(heights(1, 2), 1));
        none("14: no clash", row(heights(1, 2), 1, 2));
        none("14: all of one rank", row(heights(3, 2, 1), 4, 4, 4));
        none("14: all of one height", row(heights(3, 3, 3), 4, 5, 6));
        best("14: one clash, none then", row(heights(1, 2), 2, 1), 0, 1);
        TavernStools barred = new TavernStools();
        barred.stool(1, 0, 0, true);
        barred.stool(2, 0, 0, false);
        barred.guest(1, 1);
        barred.cat(1);
        barred.sit(0, 0);
        barred.sit(1, 1);
        Checks.due("14: they clash", 1, barred.clashes(false));
        none("14: the cat may not sit there", barred);
        TavernStools standing = row(heights(1, 2), 2, 1);
        standing.getUp(1);
        none("14: the other one stands", standing);
    }

    private static void none(String call, TavernStools x) {
        Class<?> want = NoSuchElementException.class;
        Checks.due(call, want.getSimpleName(), Twins.outcome(x, y -> y.bestSwap(false)));
        Checks.due(call + ", second", want.getSimpleName(), Twins.outcome(x, y -> y.bestSwap(true)));
    }

    private static void best(String call, TavernStools x, int first, int second) {
        String before = Twins.whole(x);
        Checks.due(call + ", first", first, x.bestSwap(false));
        Checks.due(call + ", second", second, x.bestSwap(true));
        Checks.due(call + ", nothing changes", before, Twins.whole(x));
    }

    private static void bestOfSeveral() {
        best("14: fewest ahead of the lower first", row(heights(1, 2, 3), 2, 1, 0), 0, 2);
        best("14: the lower first", row(heights(1, 2, 1, 2), 2, 1, 2, 1), 0, 1);
        best("14: then the lower second", row(heights(1, 2, 2), 3, 1, 1), 0, 1);
        best("14: the second one of even firsts", row(heights(2, 1, 1), 1, 3, 3), 0, 1);
        best("14: two pairs, the first ones even", row(heights(5, 1, 2, 1, 2), 9, 2, 1, 2, 1), 1, 2);
    }

    private static void bestAmongTheLast() {
        TavernStools x = row(heights(40, 39, 38, 37, 36, 35, 34, 33, 32, 31, 1, 2), 9, 9, 9, 9, 9, 9, 9, 9, 9, 9, 8, 7);
        best("14: the last two", x, 10, 11);
        Checks.due("13: none is left", 0, x.swap(10, 11));
        none("14: none is left", x);
    }

    /** A guest at the bar below a cat: they clash and cannot swap; one who stands would do in the place of either. */
    private static TavernStools stuck(int stander) {
        TavernStools x = new TavernStools();
        x.stool(1, 0, 0, true);
        x.stool(2, 0, 0, false);
        for (int sitter = 0; sitter < 3; sitter++) {
            come(x, sitter == stander ? 1 : sitter == (stander + 1) % 3 ? 0 : 5, 10);
        }
        x.sit((stander + 1) % 3, 1);
        x.sit((stander + 2) % 3, 0);
        return x;
    }

    private static void standersDoNotSwap() {
        for (int stander = 0; stander < 3; stander++) {
            TavernStools x = stuck(stander);
            Checks.due("14: they clash", 1, x.clashes(false));
            none("14: one who stands, " + stander, x);
        }
        TavernStools first = row(heights(1, 3, 2), 1, 3, 5);
        first.getUp(0);
        best("14: not with the first one, who stands", first, 1, 2);
        TavernStools second = row(heights(1, 3, 2), 5, 1, 3);
        second.getUp(1);
        best("14: not with the second one, who stands", second, 0, 2);
    }

    private static void catsDoNotSwapToTheBar() {
        for (int cat = 0; cat < 2; cat++) {
            TavernStools x = new TavernStools();
            x.stool(1, 0, 0, true);
            x.stool(2, 0, 0, false);
            come(x, cat == 0 ? 0 : 1, 1);
            come(x, cat == 0 ? 1 : 0, 1);
            x.sit(cat, 1);
            x.sit(1 - cat, 0);
            Checks.due("14: they clash", 1, x.clashes(true));
            none("14: the cat may not sit there, " + cat, x);
        }
    }

    private static void moreSittersThanStools() {
        TavernStools x = row(heights(1, 2), 0);
        x.getUp(0);
        for (int rank : new int[] {9, 8, 7, 3, 2}) {
            x.guest(rank, 50);
        }
        Checks.due("5: alone", 0, x.sit(4, 0));
        Checks.due("5: clashes with one of a lower number", 1, x.sit(5, 1));
        Checks.due("8: so with one of a higher number", 1, x.sitterOf(4, 3));
        Checks.due("9: pair by pair", 1, x.clashes(false));
        Checks.due("9: stool by stool", 1, x.clashes(true));
        Checks.due("4 for those who sit", 2, x.account(4));
        best("14: the last two", x, 4, 5);
        Checks.due("12: both", 2, x.wouldMove());
        Checks.due("11: both", 2, x.brawl(0, 1));
        Checks.due("25: seats", "fe", seats(x));
        Checks.due("24: the last one by rank", 0, x.ranked(5));
    }

    private static void moreStoolsThanSitters() {
        TavernStools x = new TavernStools();
        for (int number = 0; number < 6; number++) {
            x.stool(6 - number, number, number, false);
        }
        x.guest(1, 10);
        x.guest(9, 10);
        x.sit(0, 4);
        x.sit(1, 5);
        Checks.due("9: pair by pair", 1, x.clashes(false));
        Checks.due("9: stool by stool", 1, x.clashes(true));
        Checks.due("4 for those who sit", 2, x.account(4));
        Checks.due("34: the last two stools", 1.5, x.meanHeight());
        float noise = 0.0f + x.noiseOf(0) + x.noiseOf(1);
        Checks.due("21: the last two stools", Float.floatToIntBits(noise), x.noiseBits());
        Checks.due("22: both wobble", 0, x.night());
        Checks.due("22: the last one squeaks", 6, x.stoolOf(5, 1));
        Checks.due("11: nobody sits there", "UnsupportedOperationException", Twins.outcome(x, y -> y.brawl(0, 3)));
        Checks.due("8: how many stools are taken anywhere", "8 2", Twins.reasonOf(x));
        x.getUp(0);
        Checks.due("4 for those who sit", 1, x.account(4));
        Twins.outcome(x, y -> y.brawl(4, 4));
        Checks.due("8: the last one is taken", "8 1", Twins.reasonOf(x));
        Checks.due("11: all stools", 1, x.brawl(0, 5));
        Checks.due("25: seats", "b.....", seats(x));
        Checks.due("23: the last one by tilt", 0, x.tilted(5));
    }

    private static void tiltOrder() {
        TavernStools x = new TavernStools();
        int[][] all = {{40, 0}, {1, 0}, {2, 1}, {18, 9}, {3, 1}, {9, 3}, {1, 9}, {40, 1}, {39, 1}};
        for (int[] one : all) {
            x.stool(one[0], 0, one[1], false);
        }
        x.guest(1, 1);
        x.sit(0, 0);
        int[] want = {6, 2, 3, 4, 5, 8, 7, 0, 1};
        for (int place = 0; place < want.length; place++) {
            Checks.due("23: free ones too, even ones by number, " + place, want[place], x.tilted(place));
        }
        x.coin(6);
        x.coin(2);
        Checks.due("23: by the wobble then", 3, x.tilted(1));
        Checks.due("23: without a tilt by number", 2, x.tilted(8));
    }

    private static void rankOrder() {
        TavernStools x = row(heights(1, 2));
        int[][] all = {{0, 200}, {1, 1}, {0, 200}, {9, 1}, {9, 2}, {1, 1}, {8, 200}, {0, 199}};
        for (int[] one : all) {
            come(x, one[0], one[1]);
        }
        int[] want = {4, 3, 6, 1, 5, 0, 2, 7};
        for (int place = 0; place < want.length; place++) {
            Checks.due("24: all stand, even ones by number, " + place, want[place], x.ranked(place));
        }
        x.sit(7, 1);
        for (int place = 0; place < want.length; place++) {
            Checks.due("24: one sits, the order is the same, " + place, want[place], x.ranked(place));
        }
    }
}
