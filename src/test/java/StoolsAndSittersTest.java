/** Promises 1 to 8. */
public final class StoolsAndSittersTest {
    public static void main(String[] args) {
        newObject();
        stool();
        guest();
        cat();
        sit();
        getUp();
        stoolOf();
        sitterOf();
        Checks.end();
    }

    private static void newObject() {
        TavernStools x = new TavernStools();
        Checks.due("1: a new object", "0 0 0 0 0 6 0 0 0 0 0 0 0 ", Checks.state(x));
        TavernStools other = new TavernStools();
        other.stool(1, 0, 0, false);
        Checks.due("1: objects are apart", 0, x.account(0));
    }

    private static void stool() {
        TavernStools x = new TavernStools();
        Checks.due("2: stool", 0, x.stool(1, 0, 0, false));
        Checks.due("2: stool", 1, x.stool(40, 9, 9, true));
        for (int number = 2; number < 12; number++) {
            Checks.due("2: stool", number, x.stool(number, 1, 1, false));
        }
        Checks.refused(x, "2: a thirteenth stool", 1, 12, () -> x.stool(1, 0, 0, false));
        Checks.thrown(x, "2: wrong ahead of full", IllegalArgumentException.class, () -> x.stool(0, 0, 0, false));
        Checks.due("2: the last stool stands", 11, x.stoolOf(11, 0));
    }

    private static void guest() {
        TavernStools x = new TavernStools();
        Checks.due("3: guest", 0, x.guest(1, 1));
        Checks.due("3: guest", 1, x.guest(9, 200));
        for (int number = 2; number < 12; number++) {
            Checks.due("3: guest", number, x.guest(5, 70));
        }
        Checks.refused(x, "3: a thirteenth guest", 1, 12, () -> x.guest(5, 70));
        Checks.thrown(x, "3: wrong ahead of full", IllegalArgumentException.class, () -> x.guest(10, 70));
    }

    private static void cat() {
        TavernStools x = new TavernStools();
        Checks.due("4: cat", 0, x.cat(1));
        Checks.due("4: guests and cats are numbered alike", 1, x.guest(4, 60));
        Checks.due("4: cat", 2, x.cat(200));
        for (int number = 3; number < 12; number++) {
            x.cat(3);
        }
        Checks.refused(x, "4: a thirteenth cat", 1, 12, () -> x.cat(3));
        Checks.thrown(x, "4: wrong ahead of full", IllegalArgumentException.class, () -> x.cat(0));
        Checks.due("4: cats are counted", 11, x.account(3));
    }

    private static TavernStools small() {
        TavernStools x = new TavernStools();
        x.stool(10, 1, 2, false);
        x.stool(20, 3, 4, true);
        x.stool(30, 5, 6, false);
        x.guest(5, 50);
        x.guest(2, 150);
        x.cat(7);
        return x;
    }

    private static void sit() {
        TavernStools x = small();
        Checks.due("5: sit", 0, x.sit(0, 0));
        Checks.due("5: a lower rank above clashes", 1, x.sit(1, 1));
        Checks.due("5: a cat above both clashes twice", 2, x.sit(2, 2));
        Checks.refused(x, "5: sits there already", 4, 1, () -> x.sit(1, 1));
        Checks.refused(x, "5: taken by another one", 2, 0, () -> x.sit(1, 0));
        Checks.refused(x, "5: taken ahead of the bar", 2, 1, () -> x.sit(2, 1));
        x.getUp(1);
        Checks.refused(x, "5: no cat at the bar", 3, 1, () -> x.sit(2, 1));
        Checks.due("5: from one stool to another", 1, x.sit(0, 1));
        Checks.refused(x, "5: taken by whom", 2, 0, () -> x.sit(1, 1));
        Checks.due("5: the old stool is free", -1, x.stoolOf(0, 5));
        Checks.due("5: the new stool is taken", 0, x.stoolOf(1, 5));
    }

    private static void getUp() {
        TavernStools x = small();
        Checks.refused(x, "6: stands", 4, 2, () -> x.getUp(2));
        x.sit(2, 2);
        Checks.due("6: getUp", 2, x.getUp(2));
        Checks.due("6: stands then", -1, x.sitterOf(2, 2));
        Checks.due("6: the stool is free", -1, x.stoolOf(2, 5));
        Checks.refused(x, "6: stands again", 4, 2, () -> x.getUp(2));
    }

    private static void stoolOf() {
        TavernStools x = small();
        x.sit(1, 1);
        x.coin(1);
        int[] want = {20, 3, 3, 1, 1, 1};
        for (int what = 0; what <= 5; what++) {
            Checks.due("7: stoolOf(1, " + what + ")", want[what], x.stoolOf(1, what));
        }
        Checks.due("7: not at the bar", 0, x.stoolOf(2, 3));
        Checks.due("7: free", -1, x.stoolOf(2, 5));
        Checks.thrown(x, "7: the stool first", IndexOutOfBoundsException.class, () -> x.stoolOf(3, 6));
    }

    private static void sitterOf() {
        TavernStools x = small();
        x.sit(0, 0);
        x.sit(1, 2);
        int[] guest = {2, 150, 2, 1, 0};
        int[] cat = {0, 7, -1, 0, 1};
        for (int what = 0; what <= 4; what++) {
            Checks.due("8: sitterOf(1, " + what + ")", guest[what], x.sitterOf(1, what));
            Checks.due("8: sitterOf(2, " + what + ")", cat[what], x.sitterOf(2, what));
        }
        Checks.thrown(x, "8: the sitter first", IndexOutOfBoundsException.class, () -> x.sitterOf(3, 5));
    }
}
