import java.lang.reflect.Field;

/**
 * Promise 33 where all is not well. No call can bring that about, so that the state inside is changed by reflection:
 * else an isWell that always answers true would pass.
 */
public final class WellTest {
    private static final int STOOL_NUMBERS = 6;
    private static final int BAR = 3;
    private static final int COINS = 4;
    private static final int SITTER = 5;
    private static final int SITTER_NUMBERS = 3;
    private static final int PLACE = 2;

    private final TavernStools x;
    private final Object inside;

    private WellTest(TavernStools x) throws ReflectiveOperationException {
        this.x = x;
        inside = field(x, "tavern").get(x);
    }

    private static TavernStools tavern() {
        TavernStools x = new TavernStools();
        x.stool(10, 3, 2, false);
        x.stool(30, 8, 8, true);
        x.stool(20, 1, 1, false);
        x.stool(5, 0, 0, false);
        x.guest(3, 101);
        x.cat(150);
        x.guest(7, 20);
        x.cat(1);
        x.sit(0, 1);
        x.sit(1, 0);
        x.sit(2, 3);
        x.coin(1);
        x.night();
        return x;
    }

    public static void main(String[] args) throws ReflectiveOperationException {
        untouched();
        catAtTheBar();
        stoolAndSitterTellApart();
        toldApartWithoutAClash();
        clashesToldApart();
        coinsTooManyOrTooFew();
        Checks.end();
    }

    private static Field field(Object of, String name) throws ReflectiveOperationException {
        Field field = of.getClass().getDeclaredField(name);
        field.setAccessible(true);
        return field;
    }

    private void set(String row, int index, int number) throws ReflectiveOperationException {
        ((int[]) field(inside, row).get(inside))[index] = number;
    }

    private void stoolTells(int stool, int what, int number) throws ReflectiveOperationException {
        set("stoolRow", stool * STOOL_NUMBERS + what, number);
    }

    private void sitterTells(int sitter, int stool) throws ReflectiveOperationException {
        set("sitterRow", sitter * SITTER_NUMBERS + PLACE, stool);
    }

    private void add(String name, int more) throws ReflectiveOperationException {
        field(inside, name).setInt(inside, field(inside, name).getInt(inside) + more);
    }

    private void well(String what, boolean want) {
        Checks.due("33: " + what, want, x.isWell());
    }

    private static void untouched() throws ReflectiveOperationException {
        WellTest test = new WellTest(tavern());
        test.well("all is well", true);
        test.stoolTells(1, SITTER, 0);
        test.sitterTells(0, 1);
        test.well("as it was", true);
        test.stoolTells(2, BAR, 1);
        test.well("a free one at the bar", true);
        test.stoolTells(3, BAR, 1);
        test.well("a guest at the bar", true);
    }

    private static void catAtTheBar() throws ReflectiveOperationException {
        WellTest test = new WellTest(tavern());
        test.stoolTells(0, BAR, 1);
        test.well("a cat at the bar", false);
        test.stoolTells(0, BAR, 0);
        test.well("no more", true);
    }

    private static void stoolAndSitterTellApart() throws ReflectiveOperationException {
        WellTest none = new WellTest(tavern());
        none.stoolTells(3, SITTER, -1);
        none.well("a stool that is free tells the sitter", false);
        WellTest free = new WellTest(tavern());
        free.sitterTells(1, -1);
        free.well("one who stands sits there, tells the stool", false);
        WellTest another = new WellTest(tavern());
        another.stoolTells(1, SITTER, 2);
        another.well("the stool tells of one who sits elsewhere", false);
        WellTest elsewhere = new WellTest(tavern());
        elsewhere.sitterTells(2, 2);
        elsewhere.well("the sitter tells of a free stool", false);
        WellTest twice = new WellTest(tavern());
        twice.sitterTells(3, 0);
        twice.well("two tell of one stool", false);
        WellTest crossed = new WellTest(tavern());
        crossed.stoolTells(1, SITTER, 1);
        crossed.stoolTells(0, SITTER, 0);
        crossed.well("two told on each other's stools", false);
    }

    /** Cats alone never clash, so that clashes cannot betray what stools and sitters tell. */
    private static void toldApartWithoutAClash() throws ReflectiveOperationException {
        for (int number = 0; number < 12; number++) {
            WellTest ofStool = new WellTest(twelveCats());
            ofStool.well("all cats stand", true);
            ofStool.stoolTells(number, SITTER, number);
            ofStool.well("the stool alone tells of cat " + number, false);
            WellTest ofSitter = new WellTest(twelveCats());
            ofSitter.sitterTells(number, number);
            ofSitter.well("cat " + number + " alone tells of the stool", false);
            ofSitter.stoolTells(number, SITTER, number);
            ofSitter.well("both tell of cat " + number, true);
            ofSitter.stoolTells(number, BAR, 1);
            ofSitter.well("at the bar, cat " + number, false);
        }
    }

    private static TavernStools twelveCats() {
        TavernStools x = new TavernStools();
        for (int number = 0; number < 12; number++) {
            x.stool(1 + number, 0, 0, false);
            x.cat(1);
        }
        return x;
    }

    /** Without the last stool the sitters' way still tells of who sits on it, and the stools' way does not. */
    private static void clashesToldApart() throws ReflectiveOperationException {
        WellTest test = new WellTest(tavern());
        test.add("stools", -1);
        Checks.due("33: told apart", false, test.x.clashes(false) == test.x.clashes(true));
        test.well("clashes are told apart", false);
        test.add("stools", 1);
        Checks.due("33: told alike", test.x.clashes(false), test.x.clashes(true));
        test.well("clashes are told alike", true);
    }

    private static void coinsTooManyOrTooFew() throws ReflectiveOperationException {
        for (String name : new String[] {"purse", "brought"}) {
            for (int more = -1; more <= 1; more++) {
                WellTest test = new WellTest(tavern());
                test.add(name, more);
                test.well("coins of " + name + ", " + more + " more", more == 0);
            }
        }
        for (int coins = 0; coins <= 2; coins++) {
            WellTest test = new WellTest(tavern());
            test.stoolTells(1, COINS, coins);
            test.well("coins under a stool: " + coins, coins == 1);
        }
        WellTest both = new WellTest(tavern());
        both.add("purse", 3);
        both.add("brought", 3);
        both.well("three more, which nights brought", true);
    }
}
