/** Edges of coins, tilts, noise and nights. */
public final class WearEdgesTest {
    public static void main(String[] args) {
        coinLowersTheWobble();
        takenCoinRaisesItUpToNine();
        sixCoins();
        coinsGoAround();
        tiltEnds();
        noiseEnds();
        noiseOfTheTavern();
        nightOfAnEmptyTavern();
        nightBringsACoin();
        nightWearsWobbles();
        nightWearsSqueaks();
        nightOfAll();
        nightWithCoinsUnderStools();
        manyNights();
        meanHeightEdges();
        Checks.end();
    }

    private static TavernStools one(int height, int squeak, int wobble) {
        TavernStools x = new TavernStools();
        x.stool(height, squeak, wobble, false);
        return x;
    }

    /** A guest, or a cat where the rank is 0, who sits on the only stool. */
    private static TavernStools seated(int squeak, int wobble, int rank, int weight) {
        TavernStools x = one(10, squeak, wobble);
        x.sit(rank == 0 ? x.cat(weight) : x.guest(rank, weight), 0);
        return x;
    }

    private static void wear(String call, TavernStools x, int coins, int wobble, int squeak) {
        Checks.due(call + ": the coins", coins, x.night());
        Checks.due(call + ": the wobble", wobble, x.stoolOf(0, 2));
        Checks.due(call + ": the squeak", squeak, x.stoolOf(0, 1));
        Checks.due(call + ": the tavern gets them", 6 + coins, x.account(5));
        Checks.due(call + ": nights brought them", coins, x.account(9));
        Checks.due(call + ": the night", 1, x.account(7));
        Checks.due(call + ": nobody gets up", 0, x.stoolOf(0, 5));
        Checks.due(call + ": all is well", true, x.isWell());
    }

    private static void coinLowersTheWobble() {
        for (int wobble = 1; wobble <= 9; wobble++) {
            TavernStools x = one(10, 0, wobble);
            Checks.due("15: its wobble then", wobble - 1, x.coin(0));
            Checks.due("15: its wobble is kept", wobble - 1, x.stoolOf(0, 2));
            Checks.due("15: the coin lies there", 1, x.stoolOf(0, 4));
            Checks.due("15: five are left", 5, x.account(5));
            Checks.due("15: one lies under stools", 1, x.account(6));
            Checks.due("10 for the wobbles", wobble - 1, x.account(10));
            Checks.due("16: back again", wobble, x.takeCoin(0));
            Checks.due("16: its wobble is kept", wobble, x.stoolOf(0, 2));
            Checks.due("16: none lies there", 0, x.stoolOf(0, 4) + x.account(6));
            Checks.due("16: six again", 6, x.account(5));
        }
        Twins.refused("15: a wobble of 0", 6, 0, () -> one(10, 0, 0), x -> x.coin(0));
    }

    private static void takenCoinRaisesItUpToNine() {
        for (int nights = 0; nights <= 3; nights++) {
            TavernStools x = seated(0, 9, 1, 101);
            x.coin(0);
            x.coin(0);
            for (int night = 0; night < nights; night++) {
                x.night();
            }
            int wobble = Math.min(9, 7 + nights);
            Checks.due("16: 1 more, up to 9", Math.min(9, wobble + 1), x.takeCoin(0));
            Checks.due("16: 1 more, up to 9", Math.min(9, wobble + 2), x.takeCoin(0));
            Checks.due("16: all six are back", 6, x.account(5));
            Checks.due("33: all is well", true, x.isWell());
        }
    }

    private static void sixCoins() {
        TavernStools x = one(1, 0, 9);
        x.stool(1, 0, 1, true);
        for (int coins = 1; coins <= 6; coins++) {
            Checks.due("15: coin " + coins, 9 - coins, x.coin(0));
            Checks.due("5 for the coins of the tavern", 6 - coins, x.account(5));
            Checks.due("6 for those under stools", coins, x.account(6));
        }
        Checks.due("15: no seventh", "UnsupportedOperationException", Twins.outcome(x, y -> y.coin(1)));
        Checks.due("16: one back", 4, x.takeCoin(0));
        Checks.due("15: and under the other", 0, x.coin(1));
        Checks.due("7: five", 5, x.stoolOf(0, 4));
        Checks.due("7: one", 1, x.stoolOf(1, 4));
        Checks.due("6 for those under all stools", 6, x.account(6));
    }

    private static void coinsGoAround() {
        TavernStools x = one(1, 0, 9);
        for (int times = 0; times < 20; times++) {
            x.coin(0);
            x.coin(0);
            x.takeCoin(0);
            x.takeCoin(0);
        }
        Checks.due("16: none is lost", 6, x.account(5));
        Checks.due("16: no wobble is lost", 9, x.stoolOf(0, 2));
    }

    private static void tiltEnds() {
        int[][] all = {{1, 0}, {40, 0}, {1, 1}, {40, 1}, {1, 9}, {40, 9}, {39, 8}, {3, 1}, {7, 9}};
        for (int[] end : all) {
            TavernStools x = one(end[0], 9, end[1]);
            float want = (float) end[1] / (float) end[0];
            Checks.due("17: " + end[1] + " by " + end[0], want, x.tilt(0));
            Checks.due("18: " + end[1] + " by " + end[0], Float.floatToIntBits(want), x.tiltBits(0));
        }
        Checks.due("18: no tilt is 0.0f", 0, one(40, 0, 0).tiltBits(0));
        Checks.due("18: 1.0f", 1065353216, one(9, 0, 9).tiltBits(0));
        Checks.due("18: a third", 1051372203, one(3, 0, 1).tiltBits(0));
        TavernStools x = one(1, 0, 1);
        x.coin(0);
        Checks.due("17: the coin takes the tilt", 0.0f, x.tilt(0));
    }

    private static void noiseEnds() {
        int[][] all = {{0, 0, 1}, {0, 9, 200}, {1, 0, 1}, {9, 9, 200}, {9, 0, 200}, {1, 9, 1}, {7, 3, 133}};
        for (int[] end : all) {
            float want = (float) end[0] * (1.0f + (float) end[1] / 10.0f) * (float) end[2];
            for (int rank : new int[] {0, 1, 9}) {
                TavernStools x = seated(end[0], end[1], rank, end[2]);
                Checks.due("20: the noise", want, x.noiseOf(0));
                Checks.due("21: of the tavern", Float.floatToIntBits(want), x.noiseBits());
                x.getUp(0);
                Checks.due("20: stands then", 0.0f, x.noiseOf(0));
                Checks.due("20: 0.0f, not -0.0f", 0, Float.floatToIntBits(x.noiseOf(0)));
                Checks.due("21: nobody sits then", 0, x.noiseBits());
            }
        }
        TavernStools loudest = one(1, 9, 9);
        loudest.guest(1, 200);
        loudest.sit(0, 0);
        Checks.due("20: the loudest", 18000.0f, loudest.noiseOf(0));
    }

    private static void noiseOfTheTavern() {
        Checks.due("21: an empty tavern", 0, new TavernStools().noiseBits());
        Checks.due("21: a free stool makes none", 0, one(1, 9, 9).noiseBits());
        TavernStools x = new TavernStools();
        float sum = 0.0f;
        for (int number = 0; number < 12; number++) {
            x.stool(1 + 3 * number, 9 - number % 7, number % 10, false);
            x.guest(1 + number % 9, 200 - 13 * number);
        }
        for (int stool = 0; stool < 12; stool++) {
            x.sit((stool * 5 + 3) % 12, stool);
            sum += x.noiseOf((stool * 5 + 3) % 12);
            Checks.due("21: by the numbers of the stools, " + stool, Float.floatToIntBits(sum), x.noiseBits());
        }
        TavernStools all = new TavernStools();
        for (int number = 0; number < 12; number++) {
            all.stool(1, 9, 9, false);
            all.cat(200);
            all.sit(number, number);
        }
        Checks.due("21: the loudest tavern", Float.floatToIntBits(216000.0f), all.noiseBits());
    }

    private static void nightOfAnEmptyTavern() {
        TavernStools x = new TavernStools();
        Checks.due("22: an empty tavern", 0, x.night());
        Checks.due("7 for the night", 1, x.account(7));
        Checks.due("22: it can be undone", 0, x.undo());
        Checks.due("7 for the night", 0, x.account(7));
        TavernStools free = one(1, 4, 4);
        free.guest(9, 200);
        Checks.due("22: nobody sits", 0, free.night());
        Checks.due("22: a free stool stays", "4 4", free.stoolOf(0, 1) + " " + free.stoolOf(0, 2));
        TavernStools firm = one(1, 0, 0);
        firm.guest(9, 200);
        Checks.due("22: a firm one brings none if it is free", 0, firm.night());
    }

    private static void nightBringsACoin() {
        wear("22: a guest, firm", seated(0, 0, 1, 1), 1, 0, 0);
        wear("22: a guest of rank 9, firm", seated(0, 0, 9, 100), 1, 0, 0);
        wear("22: a guest, a wobble of 1", seated(0, 1, 1, 1), 0, 1, 1);
        wear("22: a guest, a wobble of 9", seated(0, 9, 9, 1), 0, 9, 1);
        wear("22: a cat, firm", seated(0, 0, 0, 1), 0, 0, 0);
        wear("22: a cat, a wobble of 1", seated(0, 1, 0, 1), 0, 1, 1);
        wear("22: a heavy guest, firm", seated(0, 0, 1, 101), 1, 1, 1);
        wear("22: a heavy cat, firm", seated(0, 0, 0, 101), 0, 1, 1);
    }

    private static void nightWearsWobbles() {
        wear("22: 100 is not more than 100", seated(0, 3, 1, 100), 0, 3, 1);
        wear("22: 101 is", seated(0, 3, 1, 101), 0, 4, 1);
        wear("22: 200 is, 1 more still", seated(0, 3, 1, 200), 0, 4, 1);
        wear("22: a cat of 100", seated(0, 3, 0, 100), 0, 3, 1);
        wear("22: a cat of 101", seated(0, 3, 0, 101), 0, 4, 1);
        wear("22: from 8 to 9", seated(0, 8, 1, 101), 0, 9, 1);
        wear("22: up to 9", seated(0, 9, 1, 101), 0, 9, 1);
    }

    private static void nightWearsSqueaks() {
        wear("22: no wobble, no squeak", seated(5, 0, 1, 100), 1, 0, 5);
        wear("22: the wobble that came this night counts", seated(5, 0, 1, 101), 1, 1, 6);
        wear("22: a wobble of 1", seated(5, 1, 1, 1), 0, 1, 6);
        wear("22: from 8 to 9", seated(8, 1, 1, 1), 0, 1, 9);
        wear("22: up to 9", seated(9, 1, 1, 1), 0, 1, 9);
        wear("22: both up to 9", seated(9, 9, 0, 200), 0, 9, 9);
        wear("22: both from 8", seated(8, 8, 0, 200), 0, 9, 9);
    }

    private static void nightOfAll() {
        TavernStools x = new TavernStools();
        for (int number = 0; number < 12; number++) {
            x.stool(1, 0, 0, number % 2 == 0);
            x.guest(1, 90 + number);
        }
        for (int number = 0; number < 12; number++) {
            x.sit(number, 11 - number);
        }
        Checks.due("22: twelve coins", 12, x.night());
        Checks.due("22: eighteen then", 18, x.account(5));
        Checks.due("22: only one weighs more than 100", 1, x.stoolOf(0, 2));
        Checks.due("22: the other one stays", 0, x.stoolOf(1, 2));
        Checks.due("10 for the wobbles", 1, x.account(10));
        Checks.due("22: eleven more", 11, x.night());
        Checks.due("9 for what nights brought", 23, x.account(9));
        Checks.due("35: the second night is undone", 7, x.undo());
        Checks.due("35: twelve were brought", 12, x.account(9));
        Checks.due("35: eighteen", 18, x.account(5));
    }

    private static void nightWithCoinsUnderStools() {
        TavernStools x = seated(0, 1, 1, 1);
        x.coin(0);
        Checks.due("22: a coin has made it firm", 1, x.night());
        Checks.due("22: its coins stay", 1, x.stoolOf(0, 4));
        Checks.due("22: the tavern's purse", 6, x.account(5));
        Checks.due("33: 6 and those that nights brought", true, x.isWell());
        Checks.due("16: taken back", 1, x.takeCoin(0));
        Checks.due("16: seven", 7, x.account(5));
        Checks.due("22: it wobbles", 0, x.night());
        Checks.due("33: all is well", true, x.isWell());
    }

    /** The 512th call of an object is still promised. */
    private static void manyNights() {
        TavernStools x = seated(0, 0, 1, 100);
        for (int call = 4; call <= 511; call++) {
            x.night();
        }
        Checks.due("512 calls: the last one", 508, x.account(9));
    }

    private static void meanHeightEdges() {
        Class<?> nobody = ArithmeticException.class;
        Twins.thrown("34: an empty tavern", nobody, TavernStools::new, TavernStools::meanHeight);
        Twins.thrown("34: a free stool", nobody, () -> one(5, 5, 5), TavernStools::meanHeight);
        Twins.thrown("34: got up", nobody, () -> {
            TavernStools x = seated(1, 1, 1, 1);
            x.getUp(0);
            return x;
        }, TavernStools::meanHeight);
        Checks.due("34: one sits", 10.0, seated(1, 1, 0, 1).meanHeight());
        TavernStools x = one(40, 0, 0);
        x.stool(1, 0, 0, true);
        x.stool(39, 0, 0, true);
        x.guest(1, 1);
        x.guest(1, 1);
        x.sit(0, 1);
        Checks.due("34: the least", 1.0, x.meanHeight());
        x.sit(1, 0);
        Checks.due("34: a half is no whole number", 20.5, x.meanHeight());
        x.sit(0, 2);
        Checks.due("34: the one stool for the other", 39.5, x.meanHeight());
        x.cat(1);
        x.stool(1, 0, 0, false);
        x.sit(2, 3);
        Checks.due("34: a third", 80.0 / 3.0, x.meanHeight());
    }
}
