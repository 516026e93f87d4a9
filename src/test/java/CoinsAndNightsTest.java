import java.util.NoSuchElementException;

/** Promises 15 to 24. */
public final class CoinsAndNightsTest {
    public static void main(String[] args) {
        coin();
        takeCoin();
        tilt();
        plusTilt();
        plusTiltOfManyBits();
        noise();
        night();
        nightsEdges();
        tilted();
        ranked();
        Checks.end();
    }

    /** Three stools of the heights 10, 30, 20 with the wobbles 2, 9, 0; guests of 100 and 101 and a cat of 150. */
    private static TavernStools tavern() {
        TavernStools x = new TavernStools();
        x.stool(10, 3, 2, false);
        x.stool(30, 9, 9, true);
        x.stool(20, 0, 0, false);
        x.guest(3, 100);
        x.guest(4, 101);
        x.cat(150);
        return x;
    }

    private static void coin() {
        TavernStools x = tavern();
        Checks.due("15: coin", 1, x.coin(0));
        Checks.due("15: coin", 0, x.coin(0));
        Checks.due("15: coins lie there", 2, x.stoolOf(0, 4));
        Checks.due("15: the tavern has fewer", 4, x.account(5));
        Checks.refused(x, "15: does not wobble", 6, 2, () -> x.coin(0));
        Checks.refused(x, "15: never wobbled", 6, 0, () -> x.coin(2));
        for (int coins = 1; coins <= 4; coins++) {
            Checks.due("15: coin", 9 - coins, x.coin(1));
        }
        Checks.refused(x, "15: no coins", 5, 6, () -> x.coin(1));
        Checks.refused(x, "15: no coins ahead of no wobble", 5, 6, () -> x.coin(2));
    }

    private static void takeCoin() {
        TavernStools x = tavern();
        Checks.refused(x, "16: no coin under it", 7, 2, () -> x.takeCoin(0));
        x.coin(0);
        Checks.due("16: takeCoin", 2, x.takeCoin(0));
        Checks.due("16: none lies there", 0, x.stoolOf(0, 4));
        Checks.due("16: the tavern has it", 6, x.account(5));
        Checks.refused(x, "16: no coin again", 7, 2, () -> x.takeCoin(0));
        x.coin(1);
        x.sit(1, 1);
        x.night();
        Checks.due("16: a night wears it", 9, x.stoolOf(1, 2));
        Checks.due("16: up to 9", 9, x.takeCoin(1));
        Checks.due("16: all coins are back", 6, x.account(5));
    }

    private static void tilt() {
        for (int height = 1; height <= 40; height++) {
            TavernStools x = new TavernStools();
            for (int wobble = 0; wobble <= 9; wobble++) {
                float want = (float) wobble / (float) height;
                x.stool(height, 0, wobble, false);
                Checks.due("17: tilt " + wobble + "/" + height, want, x.tilt(wobble));
                Checks.due("18: tiltBits " + wobble + "/" + height, Float.floatToIntBits(want), x.tiltBits(wobble));
            }
        }
        TavernStools x = tavern();
    }

    private static void plusTilt() {
        TavernStools x = tavern();
        Checks.due("19: 1 and 0.2", 1067030938, x.plusTilt(1065353216, 0));
        Checks.due("19: nothing and nothing", 0, x.plusTilt(0, 2));
        Checks.due("19: the least bits", 1, x.plusTilt(1, 2));
        Checks.due("19: the most bits", 1232348159, x.plusTilt(1232348159, 2));
    }

    private static void plusTiltOfManyBits() {
        int[][] stools = {{40, 0}, {40, 1}, {1, 9}, {7, 3}, {3, 2}};
        for (long step = 0; step <= 80; step++) {
            TavernStools x = new TavernStools();
            for (int[] stool : stools) {
                x.stool(stool[0], 0, stool[1], false);
            }
            for (int near = -1; near <= 1; near++) {
                // Each second step stands at the first float of an exponent, where the halves end.
                int bits = (int) Math.max(0, Math.min(1232348159L, step * (1L << 24) + near));
                for (int stool = 0; stool < stools.length; stool++) {
                    float tilt = (float) stools[stool][1] / (float) stools[stool][0];
                    int want = Float.floatToIntBits(Float.intBitsToFloat(bits) + tilt);
                    Checks.due("19: plusTilt(" + bits + ", " + stool + ")", want, x.plusTilt(bits, stool));
                }
            }
        }
    }

    private static void noise() {
        TavernStools x = tavern();
        Checks.due("20: one who stands", 0.0f, x.noiseOf(0));
        Checks.due("21: nobody sits", 0, x.noiseBits());
        x.sit(1, 0);
        x.sit(0, 1);
        x.sit(2, 2);
        float onFirst = 3.0f * (1.0f + 2.0f / 10.0f) * 101.0f;
        float onSecond = 9.0f * (1.0f + 9.0f / 30.0f) * 100.0f;
        Checks.due("20: noiseOf", onFirst, x.noiseOf(1));
        Checks.due("20: noiseOf", onSecond, x.noiseOf(0));
        Checks.due("20: no squeak", 0.0f, x.noiseOf(2));
        Checks.due("21: noiseBits", Float.floatToIntBits(0.0f + onFirst + onSecond), x.noiseBits());
        noiseByStools();
    }

    /** A sum of floats depends on its order: by stools it is not the one by sitters. */
    private static void noiseByStools() {
        int apart = 0;
        for (int height = 1; height <= 40; height++) {
            TavernStools x = new TavernStools();
            x.stool(40, 9, 9, false);
            x.stool(height, 7, 1, false);
            x.stool(3, 1, 1, false);
            for (int sitter = 0; sitter < 3; sitter++) {
                x.guest(1, 199 - 37 * sitter);
                x.sit(sitter, 2 - sitter);
            }
            float byStools = 0.0f + x.noiseOf(2) + x.noiseOf(1) + x.noiseOf(0);
            float bySitters = 0.0f + x.noiseOf(0) + x.noiseOf(1) + x.noiseOf(2);
            Checks.due("21: by stools", Float.floatToIntBits(byStools), x.noiseBits());
            apart += byStools == bySitters ? 0 : 1;
        }
        Checks.due("21: the order matters", true, apart > 0);
    }

    private static void night() {
        TavernStools x = tavern();
        Checks.due("22: nobody sits", 0, x.night());
        Checks.due("22: the night", 1, x.account(7));
        x.sit(1, 2);
        Checks.due("22: a guest on a stool that stood firm", 1, x.night());
        Checks.due("22: heavy", 1, x.stoolOf(2, 2));
        Checks.due("22: it squeaks then", 1, x.stoolOf(2, 1));
        Checks.due("22: the coin comes", 7, x.account(5));
        Checks.due("22: nights brought it", 1, x.account(9));
        Checks.due("22: it wobbles now", 0, x.night());
        Checks.due("22: heavy again", 2, x.stoolOf(2, 2));
        Checks.due("22: nobody gets up", 2, x.sitterOf(1, 2));
        Checks.due("22: the free stools stay", 2, x.stoolOf(0, 2));
        Checks.due("22: the free stools stay", 3, x.stoolOf(0, 1));
        Checks.due("22: the night", 3, x.account(7));
    }

    private static void nightsEdges() {
        TavernStools x = tavern();
        x.sit(0, 2);
        Checks.due("22: 100 is not more than 100", 1, x.night());
        Checks.due("22: no wobble", 0, x.stoolOf(2, 2));
        Checks.due("22: no squeak", 0, x.stoolOf(2, 1));
        x.getUp(0);
        x.sit(2, 2);
        x.sit(1, 1);
        Checks.due("22: a cat brings none", 0, x.night());
        Checks.due("22: a heavy cat wears", 1, x.stoolOf(2, 2));
        Checks.due("22: wobble up to 9", 9, x.stoolOf(1, 2));
        Checks.due("22: squeak up to 9", 9, x.stoolOf(1, 1));
        x.sit(0, 0);
        x.night();
        Checks.due("22: a light one wears no wobble", 2, x.stoolOf(0, 2));
        Checks.due("22: but where it wobbles it squeaks", 4, x.stoolOf(0, 1));
    }

    private static void tilted() {
        TavernStools none = new TavernStools();
        Checks.thrown(none, "23: no stools", NoSuchElementException.class, () -> none.tilted(0));
        TavernStools x = tavern();
        x.stool(40, 0, 8, false);
        x.stool(5, 0, 0, false);
        int[] want = {1, 0, 3, 2, 4};
        x.sit(0, 0);
        for (int place = 0; place < want.length; place++) {
            Checks.due("23: tilted(" + place + ")", want[place], x.tilted(place));
        }
    }

    private static void ranked() {
        TavernStools none = new TavernStools();
        Checks.thrown(none, "24: no sitters", NoSuchElementException.class, () -> none.ranked(0));
        TavernStools x = tavern();
        x.guest(4, 101);
        x.guest(4, 102);
        x.cat(151);
        int[] want = {4, 1, 3, 0, 5, 2};
        x.sit(0, 0);
        for (int place = 0; place < want.length; place++) {
            Checks.due("24: ranked(" + place + ")", want[place], x.ranked(place));
        }
    }
}
