import java.util.NoSuchElementException;
import java.util.function.IntFunction;
import java.util.function.ObjIntConsumer;
import java.util.function.Supplier;

/** Each number that a call takes: the last values that are allowed and the first that are not, on both sides. */
public final class BoundsTest {
    private static final Class<?> WRONG = IllegalArgumentException.class;
    private static final Class<?> OUTSIDE = IndexOutOfBoundsException.class;
    private static final Class<?> NO_SUCH = NoSuchElementException.class;
    private static final int MOST_BITS = 1232348159;

    public static void main(String[] args) {
        numbersOfStools();
        numbersOfSitters();
        stoolsThere(BoundsTest::some, 3);
        stoolsThere(BoundsTest::full, 12);
        stoolsThere(TavernStools::new, 0);
        sittersThere(BoundsTest::some, 5);
        sittersThere(BoundsTest::full, 12);
        sittersThere(TavernStools::new, 0);
        whats();
        bits();
        characters();
        newStoolsAndSitters();
        Checks.end();
    }

    /** Three stools and five sitters, three of whom sit, with all that a tavern can keep. */
    private static TavernStools some() {
        TavernStools x = new TavernStools();
        x.stool(10, 3, 2, false);
        x.stool(30, 9, 9, true);
        x.stool(8, 0, 1, false);
        x.guest(3, 100);
        x.cat(150);
        x.guest(7, 20);
        x.save();
        x.cat(1);
        x.guest(1, 1);
        x.sit(0, 1);
        x.sit(1, 0);
        x.coin(1);
        x.night();
        x.stoolLine(1);
        Checks.append(x, "n;");
        return x;
    }

    /** Twelve stools and twelve sitters, all of whom sit. */
    private static TavernStools full() {
        TavernStools x = new TavernStools();
        for (int number = 0; number < 12; number++) {
            x.stool(1 + 3 * number, number % 10, 9 - number % 9, number % 3 == 1);
            x.guest(9 - number % 9, 95 + number);
            x.sit(number, number);
        }
        x.coin(0);
        x.line();
        return x;
    }

    /** From least to most the call never throws this class, and out of this range it always does. */
    private static void range(String call, int least, int most, Class<?> want, Supplier<TavernStools> make,
            ObjIntConsumer<TavernStools> act) {
        if (least <= most) {
            for (int number : new int[] {least, Math.min(least + 1, most), Math.max(most - 1, least), most}) {
                String got = Twins.outcome(make.get(), x -> act.accept(x, number));
                Checks.due(call + " with " + number, false, got.equals(want.getSimpleName()));
            }
        }
        for (int number : new int[] {least - 1, most + 1, least - 256, most + 256, Integer.MIN_VALUE,
            Integer.MAX_VALUE}) {
            Twins.thrown(call + " with " + number, want, make, x -> act.accept(x, number));
        }
    }

    private static void numbersOfStools() {
        Supplier<TavernStools> make = BoundsTest::some;
        range("stools: heights 1 to 40", 1, 40, WRONG, make, (x, n) -> x.stool(n, 0, 9, true));
        range("stools: squeaks 0 to 9", 0, 9, WRONG, make, (x, n) -> x.stool(1, n, 9, false));
        range("stools: wobbles 0 to 9", 0, 9, WRONG, make, (x, n) -> x.stool(40, 9, n, true));
        int[][] ends = {{1, 0, 0, 0}, {40, 0, 0, 1}, {1, 9, 0, 1}, {1, 0, 9, 0}, {40, 9, 9, 1}};
        TavernStools x = new TavernStools();
        for (int stool = 0; stool < ends.length; stool++) {
            int[] end = ends[stool];
            Checks.due("stools: numbered from 0", stool, x.stool(end[0], end[1], end[2], end[3] == 1));
            for (int what = 0; what <= 3; what++) {
                Checks.due("stools: kept as set, " + what, end[what], x.stoolOf(stool, what));
            }
        }
    }

    private static void numbersOfSitters() {
        Supplier<TavernStools> make = BoundsTest::some;
        range("sitters: ranks of guests 1 to 9", 1, 9, WRONG, make, (x, n) -> x.guest(n, 200));
        range("sitters: weights of guests 1 to 200", 1, 200, WRONG, make, (x, n) -> x.guest(9, n));
        range("sitters: weights of cats 1 to 200", 1, 200, WRONG, make, (x, n) -> x.cat(n));
        TavernStools x = new TavernStools();
        int[][] guests = {{1, 1}, {9, 1}, {1, 200}, {9, 200}};
        for (int[] guest : guests) {
            int sitter = x.guest(guest[0], guest[1]);
            Checks.due("sitters: the rank is kept", guest[0], x.sitterOf(sitter, 0));
            Checks.due("sitters: the weight is kept", guest[1], x.sitterOf(sitter, 1));
            Checks.due("sitters: a guest is no cat", 0, x.sitterOf(sitter, 4));
        }
        for (int weight : new int[] {1, 200}) {
            int sitter = x.cat(weight);
            Checks.due("sitters: cats have the rank 0", 0, x.sitterOf(sitter, 0));
            Checks.due("sitters: the weight is kept", weight, x.sitterOf(sitter, 1));
            Checks.due("sitters: a cat is one", 1, x.sitterOf(sitter, 4));
        }
        Checks.due("sitters: numbered from 0, guests and cats alike", 6, x.guest(5, 5));
    }

    private static void stoolsThere(Supplier<TavernStools> make, int stools) {
        IntFunction<String> of = promise -> promise + ": of " + stools + " stools";
        int last = stools - 1;
        int sitters = make.get().account(2);
        if (sitters > 0) {
            range(of.apply(5), 0, last, OUTSIDE, make, (x, n) -> x.sit(sitters - 1, n));
        }
        range(of.apply(7), 0, last, OUTSIDE, make, (x, n) -> x.stoolOf(n, 5));
        if (stools > 0) {
            range(of.apply(11) + ", from", 0, last, OUTSIDE, make, (x, n) -> x.brawl(n, last));
            range(of.apply(11) + ", to", 0, last, OUTSIDE, make, (x, n) -> x.brawl(0, n));
        }
        range(of.apply(11) + ", both", 0, last, OUTSIDE, make, (x, n) -> x.brawl(n, n));
        range(of.apply(15), 0, last, OUTSIDE, make, (x, n) -> x.coin(n));
        range(of.apply(16), 0, last, OUTSIDE, make, (x, n) -> x.takeCoin(n));
        range(of.apply(17), 0, last, OUTSIDE, make, (x, n) -> x.tilt(n));
        range(of.apply(18), 0, last, OUTSIDE, make, (x, n) -> x.tiltBits(n));
        range(of.apply(19), 0, last, OUTSIDE, make, (x, n) -> x.plusTilt(0, n));
        range(of.apply(23), 0, last, NO_SUCH, make, (x, n) -> x.tilted(n));
        range(of.apply(26), 0, last, OUTSIDE, make, (x, n) -> x.stoolLine(n));
    }

    private static void sittersThere(Supplier<TavernStools> make, int sitters) {
        IntFunction<String> of = promise -> promise + ": of " + sitters + " sitters";
        int last = sitters - 1;
        if (make.get().account(0) > 0) {
            range(of.apply(5), 0, last, OUTSIDE, make, (x, n) -> x.sit(n, 0));
        }
        range(of.apply(6), 0, last, OUTSIDE, make, (x, n) -> x.getUp(n));
        range(of.apply(8), 0, last, OUTSIDE, make, (x, n) -> x.sitterOf(n, 3));
        range(of.apply(10) + ", both", 0, last, OUTSIDE, make, (x, n) -> x.clash(n, n));
        range(of.apply(13) + ", both", 0, last, OUTSIDE, make, (x, n) -> x.swap(n, n));
        if (sitters > 0) {
            range(of.apply(10) + ", the one", 0, last, OUTSIDE, make, (x, n) -> x.clash(n, last));
            range(of.apply(10) + ", the other", 0, last, OUTSIDE, make, (x, n) -> x.clash(0, n));
            range(of.apply(13) + ", the one", 0, last, OUTSIDE, make, (x, n) -> x.swap(n, last));
            range(of.apply(13) + ", the other", 0, last, OUTSIDE, make, (x, n) -> x.swap(0, n));
        }
        range(of.apply(20), 0, last, OUTSIDE, make, (x, n) -> x.noiseOf(n));
        range(of.apply(24), 0, last, NO_SUCH, make, (x, n) -> x.ranked(n));
    }

    private static void whats() {
        Supplier<TavernStools> make = BoundsTest::some;
        range("7: what from 0 to 5", 0, 5, WRONG, make, (x, n) -> x.stoolOf(2, n));
        range("8: what from 0 to 4", 0, 4, WRONG, make, (x, n) -> x.sitterOf(4, n));
        range("32: what from 0 to 12", 0, 12, WRONG, make, (x, n) -> x.account(n));
        range("32: what of an empty tavern", 0, 12, WRONG, TavernStools::new, (x, n) -> x.account(n));
    }

    private static void bits() {
        range("19: bits from 0 to 1232348159", 0, MOST_BITS, WRONG, BoundsTest::some, (x, n) -> x.plusTilt(n, 0));
        for (int bits : new int[] {0x7f800000, 0x7fc00000, 0x7f7fffff, 0xff800000, -2147483647}) {
            Twins.thrown("19: " + bits, WRONG, BoundsTest::some, x -> x.plusTilt(bits, 0));
        }
        TavernStools x = new TavernStools();
        x.stool(40, 0, 1, false);
        x.stool(1, 0, 9, false);
        x.stool(1, 0, 0, false);
        Checks.due("19: the most bits are of less than 1000000", true, Float.intBitsToFloat(MOST_BITS) < 1000000.0f);
        Checks.due("19: the next ones are of 1000000", 1000000.0f, Float.intBitsToFloat(MOST_BITS + 1));
        int leastOfNormal = 0x00800000;
        for (int bits : new int[] {0, 1, 2, leastOfNormal - 1, leastOfNormal, leastOfNormal + 1, 1065353215, 1065353216,
            MOST_BITS - 1, MOST_BITS}) {
            for (int stool = 0; stool < 3; stool++) {
                int want = Float.floatToIntBits(Float.intBitsToFloat(bits) + x.tilt(stool));
                Checks.due("19: " + bits + " and the tilt of " + stool, want, x.plusTilt(bits, stool));
            }
        }
    }

    private static void characters() {
        range("27: the line is empty at first", 0, -1, OUTSIDE, TavernStools::new, (x, n) -> x.character(n));
        range("27: a line of 16", 0, 15, OUTSIDE, () -> {
            TavernStools x = some();
            Checks.due("27: 16 characters", 16, x.stoolLine(1));
            return x;
        }, (x, n) -> x.character(n));
        range("27: a shorter line in its place", 0, 3, OUTSIDE, () -> {
            TavernStools x = some();
            Checks.due("27: 4 characters", 4, x.line());
            return x;
        }, (x, n) -> x.character(n));
        range("27: the line of a row without stools is empty", 0, -1, OUTSIDE, () -> {
            TavernStools x = new TavernStools();
            x.stool(1, 1, 1, false);
            x.stoolLine(0);
            x.undo();
            Checks.due("27: no characters", 0, x.line());
            return x;
        }, (x, n) -> x.character(n));
    }

    /** New ones are new, also where a stool or sitter with the number was there and has been undone. */
    private static void newStoolsAndSitters() {
        TavernStools x = new TavernStools();
        x.stool(5, 5, 5, true);
        x.guest(9, 9);
        x.save();
        x.stool(6, 6, 6, true);
        x.guest(8, 8);
        x.coin(1);
        x.sit(1, 1);
        for (int times = 0; times < 4; times++) {
            x.undo();
        }
        newStoolAndSitter("undone", x);
        x.sit(1, 1);
        x.night();
        x.restore();
        newStoolAndSitter("restored", x);
    }

    private static void newStoolAndSitter(String how, TavernStools x) {
        Checks.due("stools: the number again, " + how, 1, x.stool(7, 3, 4, false));
        Checks.due("sitters: the number again, " + how, 1, x.cat(70));
        int[] stool = {7, 3, 4, 0, 0, -1};
        for (int what = 0; what <= 5; what++) {
            Checks.due("stools: at first no coins, and free, " + how, stool[what], x.stoolOf(1, what));
        }
        int[] cat = {0, 70, -1, 0, 1};
        for (int what = 0; what <= 4; what++) {
            Checks.due("sitters: stands at first, " + how, cat[what], x.sitterOf(1, what));
        }
    }
}
