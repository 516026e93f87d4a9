import java.util.NoSuchElementException;
import java.util.function.Consumer;
import java.util.function.Supplier;

/** The reasons 1 to 8 with their details and their order, and which exception is thrown if several apply. */
public final class RefusalsTest {
    private static final Class<?> WRONG = IllegalArgumentException.class;
    private static final Class<?> OUTSIDE = IndexOutOfBoundsException.class;

    public static void main(String[] args) {
        fullOfStools();
        fullOfSitters();
        takenStools();
        catsAtTheBar();
        sittingOrStanding();
        noCoins();
        noWobble();
        noCoinUnder();
        nobodySits();
        orderOfReasons();
        firstDocumented();
        noReasonAtFirst();
        latestReason();
        Checks.end();
    }

    /** Stools 0 (low), 1 (at the bar), 2 and 3 (high); guest 0 on 1, cat 1 on 0, guest 2 and cat 3 stand. */
    private static TavernStools tavern() {
        TavernStools x = new TavernStools();
        x.stool(10, 3, 2, false);
        x.stool(30, 9, 9, true);
        x.stool(20, 0, 0, false);
        x.stool(39, 1, 1, false);
        x.guest(3, 101);
        x.cat(150);
        x.guest(7, 20);
        x.save();
        x.cat(1);
        x.sit(0, 1);
        x.sit(1, 0);
        x.night();
        x.stoolLine(1);
        Checks.append(x, "n;");
        return x;
    }

    private static Supplier<TavernStools> with(Consumer<TavernStools> more) {
        return () -> {
            TavernStools x = tavern();
            more.accept(x);
            return x;
        };
    }

    private static TavernStools stools(int count) {
        TavernStools x = new TavernStools();
        for (int number = 0; number < count; number++) {
            Checks.due("1: stool " + number, number, x.stool(10 + number, 1, 1, number % 2 == 1));
        }
        return x;
    }

    private static TavernStools sitters(int guests, int cats) {
        TavernStools x = new TavernStools();
        x.stool(5, 5, 5, false);
        for (int number = 0; number < guests; number++) {
            Checks.due("1: guest " + number, number, x.guest(1 + number % 9, 10 + number));
        }
        for (int number = guests; number < guests + cats; number++) {
            Checks.due("1: cat " + number, number, x.cat(10 + number));
        }
        return x;
    }

    private static void fullOfStools() {
        Twins.allowed("1: the twelfth stool", () -> stools(11), x -> x.stool(1, 0, 0, false));
        Twins.refused("1: the thirteenth stool", 1, 12, () -> stools(12), x -> x.stool(1, 0, 0, false));
        Twins.refused("1: the thirteenth stool, at the bar", 1, 12, () -> stools(12), x -> x.stool(40, 9, 9, true));
        Twins.allowed("1: sitters still come", () -> stools(12), x -> x.guest(1, 1));
        Twins.allowed("1: cats still come", () -> stools(12), x -> x.cat(1));
        TavernStools x = stools(12);
        x.undo();
        Checks.due("1: the twelfth again, behind undo", 11, x.stool(1, 0, 0, false));
    }

    private static void fullOfSitters() {
        int[][] mixes = {{12, 0}, {0, 12}, {6, 6}, {11, 1}, {1, 11}};
        for (int[] mix : mixes) {
            String name = mix[0] + " guests and " + mix[1] + " cats";
            Supplier<TavernStools> full = () -> sitters(mix[0], mix[1]);
            Twins.refused("1: a guest more than " + name, 1, 12, full, x -> x.guest(9, 200));
            Twins.refused("1: a cat more than " + name, 1, 12, full, x -> x.cat(200));
            Twins.allowed("1: stools beside " + name, full, x -> x.stool(1, 0, 0, false));
        }
        Twins.allowed("1: the twelfth guest", () -> sitters(5, 6), x -> x.guest(1, 1));
        Twins.allowed("1: the twelfth cat", () -> sitters(5, 6), x -> x.cat(1));
        TavernStools x = sitters(6, 6);
        x.undo();
        Checks.due("1: the twelfth again, behind undo", 11, x.guest(1, 1));
    }

    private static void takenStools() {
        Twins.refused("2: taken by a guest", 2, 0, RefusalsTest::tavern, x -> x.sit(2, 1));
        Twins.refused("2: taken by a cat", 2, 1, RefusalsTest::tavern, x -> x.sit(2, 0));
        Twins.refused("2: one who sits elsewhere stays there", 2, 1, RefusalsTest::tavern, x -> x.sit(0, 0));
        Twins.refused("2: taken by the last one", 2, 11, () -> {
            TavernStools x = sitters(12, 0);
            x.sit(11, 0);
            return x;
        }, x -> x.sit(0, 0));
        Twins.allowed("2: free again", with(x -> x.getUp(0)), x -> x.sit(2, 1));
        Twins.allowed("2: the stool that was left for another one", with(x -> x.sit(0, 2)), x -> x.sit(2, 1));
    }

    private static void catsAtTheBar() {
        Twins.refused("3: a cat that stands", 3, 1, with(x -> x.getUp(0)), x -> x.sit(3, 1));
        Twins.refused("3: a cat that sits elsewhere stays there", 3, 1, with(x -> x.getUp(0)), x -> x.sit(1, 1));
        Twins.allowed("3: a guest may sit there", with(x -> x.getUp(0)), x -> x.sit(2, 1));
        Twins.allowed("3: a cat may sit elsewhere", RefusalsTest::tavern, x -> x.sit(3, 2));
        Twins.refused("3: swap, the one a cat", 3, 1, RefusalsTest::tavern, x -> x.swap(1, 0));
        Twins.refused("3: swap, the other a cat", 3, 1, RefusalsTest::tavern, x -> x.swap(0, 1));
        Supplier<TavernStools> apart = with(x -> x.sit(0, 2));
        Twins.allowed("3: swap away from the bar", apart, x -> x.swap(0, 1));
        Twins.allowed("3: swap of guests at the bar", with(x -> x.sit(2, 2)), x -> x.swap(2, 0));
        Twins.allowed("3: swap of cats", with(x -> x.sit(3, 3)), x -> x.swap(3, 1));
    }

    private static void sittingOrStanding() {
        Twins.refused("4: a guest sits there already", 4, 0, RefusalsTest::tavern, x -> x.sit(0, 1));
        Twins.refused("4: a cat sits there already", 4, 1, RefusalsTest::tavern, x -> x.sit(1, 0));
        Twins.refused("4: a guest stands", 4, 2, RefusalsTest::tavern, x -> x.getUp(2));
        Twins.refused("4: a cat stands", 4, 3, RefusalsTest::tavern, x -> x.getUp(3));
        Twins.refused("4: got up before", 4, 0, with(x -> x.getUp(0)), x -> x.getUp(0));
        Twins.refused("4: swap, the one stands", 4, 2, RefusalsTest::tavern, x -> x.swap(2, 0));
        Twins.refused("4: swap, the other stands", 4, 3, RefusalsTest::tavern, x -> x.swap(0, 3));
        Twins.refused("4: swap, both stand, the one first", 4, 3, RefusalsTest::tavern, x -> x.swap(3, 2));
        Twins.refused("4: swap, both stand, the one first", 4, 2, RefusalsTest::tavern, x -> x.swap(2, 3));
    }

    private static void coins(TavernStools x, int stool, int count) {
        for (int coin = 0; coin < count; coin++) {
            x.coin(stool);
        }
    }

    private static void noCoins() {
        Twins.allowed("5: the sixth coin", with(x -> coins(x, 1, 5)), x -> x.coin(1));
        Twins.refused("5: a seventh coin", 5, 6, with(x -> coins(x, 1, 6)), x -> x.coin(1));
        Twins.refused("5: a seventh coin, under another one", 5, 6, with(x -> coins(x, 1, 6)), x -> x.coin(0));
        Supplier<TavernStools> backAgain = with(x -> {
            coins(x, 1, 6);
            x.takeCoin(1);
        });
        Twins.allowed("5: one is back", backAgain, x -> x.coin(0));
        Supplier<TavernStools> brought = with(x -> {
            coins(x, 1, 6);
            x.sit(2, 2);
            Checks.due("22: brings one", 1, x.night());
            x.coin(1);
        });
        Twins.refused("5: all seven lie under stools", 5, 7, brought, x -> x.coin(1));
    }

    private static void noWobble() {
        Twins.refused("6: never wobbled", 6, 0, RefusalsTest::tavern, x -> x.coin(2));
        Twins.allowed("6: a wobble of 1", RefusalsTest::tavern, x -> x.coin(3));
        Twins.refused("6: one coin has mended it", 6, 1, with(x -> x.coin(3)), x -> x.coin(3));
        Twins.refused("6: coins have mended it", 6, 3, with(x -> coins(x, 0, 3)), x -> x.coin(0));
    }

    private static void noCoinUnder() {
        int[] wobbles = {3, 9, 0, 1};
        for (int stool = 0; stool < 4; stool++) {
            int number = stool;
            Twins.refused("7: none under " + stool, 7, wobbles[stool], RefusalsTest::tavern, x -> x.takeCoin(number));
        }
        Twins.allowed("7: the only coin", with(x -> x.coin(0)), x -> x.takeCoin(0));
        Twins.refused("7: under another one", 7, 3, with(x -> x.coin(1)), x -> x.takeCoin(0));
        Supplier<TavernStools> taken = with(x -> {
            x.coin(0);
            x.takeCoin(0);
        });
        Twins.refused("7: it is taken", 7, 3, taken, x -> x.takeCoin(0));
    }

    private static void nobodySits() {
        Twins.refused("8: nobody sits there, two elsewhere", 8, 2, RefusalsTest::tavern, x -> x.brawl(2, 3));
        Twins.refused("8: one stool", 8, 2, RefusalsTest::tavern, x -> x.brawl(2, 2));
        Twins.refused("8: one elsewhere", 8, 1, with(x -> x.getUp(1)), x -> x.brawl(2, 3));
        Supplier<TavernStools> nobody = with(x -> {
            x.getUp(0);
            x.getUp(1);
        });
        Twins.refused("8: nobody sits at all", 8, 0, nobody, x -> x.brawl(0, 3));
        Twins.allowed("8: one sits at the start", RefusalsTest::tavern, x -> x.brawl(1, 3));
        Twins.allowed("8: one sits at the end", with(x -> x.sit(0, 3)), x -> x.brawl(1, 3));
        Twins.refused("8: eleven sit elsewhere", 8, 11, () -> {
            TavernStools x = stools(12);
            for (int number = 0; number < 11; number++) {
                x.guest(1, 1);
                x.sit(number, number);
            }
            return x;
        }, x -> x.brawl(11, 11));
    }

    private static void orderOfReasons() {
        Twins.refused("sit: 2 ahead of 3", 2, 0, RefusalsTest::tavern, x -> x.sit(1, 1));
        Twins.refused("sit: 4 ahead of 2, for the stool is taken, too", 4, 0, RefusalsTest::tavern,
                x -> x.sit(0, 1));
        Twins.refused("coin: 5 ahead of 6", 5, 6, with(x -> coins(x, 1, 6)), x -> x.coin(2));
        Twins.refused("coin: 6 where there are coins", 6, 0, with(x -> coins(x, 1, 5)), x -> x.coin(2));
        Twins.refused("swap: 4 for the one ahead of the other", 4, 3, RefusalsTest::tavern, x -> x.swap(3, 2));
        Twins.refused("swap: 4 for the other where 3 would come with a stool", 4, 3, RefusalsTest::tavern,
                x -> x.swap(0, 3));
    }

    private static void firstDocumented() {
        Twins.thrown("2: wrong ahead of full", WRONG, () -> stools(12), x -> x.stool(41, 0, 0, false));
        Twins.thrown("3: a wrong rank ahead of full", WRONG, () -> sitters(12, 0), x -> x.guest(0, 1));
        Twins.thrown("3: a wrong weight ahead of full", WRONG, () -> sitters(12, 0), x -> x.guest(1, 201));
        Twins.thrown("4: wrong ahead of full", WRONG, () -> sitters(0, 12), x -> x.cat(0));
        Twins.thrown("5: no such sitter ahead of taken", OUTSIDE, RefusalsTest::tavern, x -> x.sit(4, 0));
        Twins.thrown("7: no such stool ahead of what", OUTSIDE, RefusalsTest::tavern, x -> x.stoolOf(4, 6));
        Twins.thrown("7: no such stool ahead of what", OUTSIDE, RefusalsTest::tavern, x -> x.stoolOf(-1, -1));
        Twins.thrown("8: no such sitter ahead of what", OUTSIDE, RefusalsTest::tavern, x -> x.sitterOf(4, 5));
        Twins.thrown("8: no such sitter ahead of what", OUTSIDE, RefusalsTest::tavern, x -> x.sitterOf(-1, -1));
        Twins.thrown("11: no such to, ahead of the one", OUTSIDE, RefusalsTest::tavern, x -> x.brawl(0, -1));
        Twins.thrown("11: no such from, the other ahead of it", OUTSIDE, RefusalsTest::tavern, x -> x.brawl(4, 3));
        Twins.thrown("11: ahead, and nobody sits there", WRONG, RefusalsTest::tavern, x -> x.brawl(3, 2));
        Twins.thrown("11: just ahead", WRONG, RefusalsTest::tavern, x -> x.brawl(1, 0));
        Twins.thrown("11: far ahead", WRONG, RefusalsTest::tavern, x -> x.brawl(3, 0));
        Twins.thrown("13: both are one who is not there", OUTSIDE, RefusalsTest::tavern, x -> x.swap(4, 4));
        Twins.thrown("13: no such other, the one stands", OUTSIDE, RefusalsTest::tavern, x -> x.swap(2, 4));
        Twins.thrown("13: both are one who stands", WRONG, RefusalsTest::tavern, x -> x.swap(2, 2));
        Twins.thrown("13: both are one who sits", WRONG, RefusalsTest::tavern, x -> x.swap(1, 1));
        Twins.thrown("15: no such stool, no coins", OUTSIDE, with(x -> coins(x, 1, 6)), x -> x.coin(4));
        Twins.thrown("19: no such stool ahead of wrong bits", OUTSIDE, RefusalsTest::tavern, x -> x.plusTilt(-1, 4));
        Twins.thrown("19: no such stool ahead of wrong bits", OUTSIDE, TavernStools::new, x -> x.plusTilt(-1, 0));
    }

    private static void noReasonAtFirst() {
        Class<?> none = NoSuchElementException.class;
        Supplier<TavernStools> plain = RefusalsTest::tavern;
        Twins.thrown("31: no reason at first", none, TavernStools::new, x -> x.refusal(false));
        Twins.thrown("31: no detail at first", none, TavernStools::new, x -> x.refusal(true));
        Twins.thrown("31: none behind changes", none, plain, x -> x.refusal(false));
        Twins.thrown("31: none behind what is wrong", none, with(x -> {
            Twins.outcome(x, y -> y.stool(0, 0, 0, false));
            Twins.outcome(x, y -> y.sit(0, 4));
            Twins.outcome(x, y -> y.brawl(1, 0));
            Twins.outcome(x, TavernStools::run);
            Twins.outcome(x, y -> y.character(-1));
            Twins.outcome(x, y -> y.tilted(4));
        }), x -> x.refusal(true));
    }

    private static void latestReason() {
        TavernStools x = tavern();
        Twins.outcome(x, y -> y.getUp(2));
        Checks.due("31: the latest refusal", "4 2", Twins.reasonOf(x));
        Twins.outcome(x, y -> y.takeCoin(1));
        Checks.due("31: the latest refusal", "7 9", Twins.reasonOf(x));
        Twins.outcome(x, y -> y.takeCoin(9));
        Checks.due("31: stays behind what is wrong", "7 9", Twins.reasonOf(x));
        x.coin(1);
        x.undo();
        x.undo();
        Checks.due("31: stays behind undo", "7 9", Twins.reasonOf(x));
        x.restore();
        Checks.due("31: stays behind restore", "7 9", Twins.reasonOf(x));
        x.save();
        Twins.outcome(x, y -> y.coin(2));
        x.restore();
        Checks.due("31: is not saved", "6 0", Twins.reasonOf(x));
        Checks.due("31: of a tavern of its own", "NoSuchElementException", Twins.reasonOf(tavern()));
    }
}
