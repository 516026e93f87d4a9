import java.util.ArrayList;
import java.util.List;
import java.util.function.Consumer;

/** Edges of undo and of the snapshot: the latest 8, what is a change, what is forgotten, what stays. */
public final class UndoEdgesTest {
    private static final Class<?> NOTHING_TO_UNDO = IllegalStateException.class;

    public static void main(String[] args) {
        newObject();
        oneToNineChanges();
        longRows();
        undoAndChangeInTurns();
        eachChangeCounts();
        noChangeDoesNotCount();
        whatMovesNobody();
        changesOfBrawlsAndNights();
        noSnapshot();
        snapshotOfAnEmptyTavern();
        snapshotStays();
        snapshotInPlaceOfAnEarlierOne();
        snapshotBesideUndo();
        restoreForgetsAll();
        whatIsNeitherUndoneNorSaved();
        Checks.end();
    }

    /** All kinds of things that a change can change. */
    private static TavernStools tavern() {
        TavernStools x = new TavernStools();
        x.stool(10, 3, 2, false);
        x.stool(30, 8, 8, true);
        x.stool(20, 0, 0, false);
        x.guest(3, 101);
        x.cat(150);
        x.guest(7, 20);
        x.sit(0, 1);
        x.sit(1, 0);
        x.coin(0);
        x.save();
        x.restore();
        return x;
    }

    private static String withoutUndo(TavernStools x) {
        StringBuilder all = new StringBuilder();
        for (int what = 0; what < 11; what++) {
            all.append(x.account(what)).append(' ');
        }
        for (int stool = 0; stool < x.account(0); stool++) {
            for (int what = 1; what <= 5; what += what == 2 ? 2 : 1) {
                all.append(x.stoolOf(stool, what)).append(' ');
            }
        }
        for (int sitter = 0; sitter < x.account(2); sitter++) {
            all.append(x.sitterOf(sitter, 2)).append(' ');
        }
        return all.toString();
    }

    private static void newObject() {
        TavernStools x = new TavernStools();
        String[] names = {"stools", "those at the bar", "sitters", "cats", "those who sit", "coins", "coins under stools",
            "night", "brawls", "coins brought", "wobbles", "characters", "changes"};
        for (int what = 0; what <= 12; what++) {
            Checks.due("1: " + names[what], what == 5 ? 6 : 0, x.account(what));
        }
        Checks.due("1: all is well", true, x.isWell());
        Checks.due("1: no error position", -1, x.errorPosition());
        Checks.due("1: no reason", "NoSuchElementException", Twins.reasonOf(x));
        Checks.due("1: no line", "", Twins.writtenLine(x));
        Twins.thrown("35: no change", NOTHING_TO_UNDO, TavernStools::new, TavernStools::undo);
    }

    private static void oneToNineChanges() {
        for (int changes = 1; changes <= 10; changes++) {
            TavernStools x = new TavernStools();
            for (int change = 1; change <= changes; change++) {
                x.night();
                Checks.due("12 for the changes, up to 8", Math.min(8, change), x.account(12));
            }
            int kept = Math.min(8, changes);
            for (int left = kept - 1; left >= 0; left--) {
                Checks.due("35: can still be undone", left, x.undo());
                Checks.due("12 for the changes", left, x.account(12));
                Checks.due("35: the night", changes - kept + left, x.account(7));
            }
            Checks.due("35: no more", "IllegalStateException", Twins.outcome(x, TavernStools::undo));
            Checks.due("35: the night stays", changes - kept, x.account(7));
        }
        Twins.thrown("35: a ninth", NOTHING_TO_UNDO, () -> {
            TavernStools x = tavern();
            for (int times = 0; times < 9; times++) {
                x.night();
            }
            for (int times = 0; times < 8; times++) {
                x.undo();
            }
            return x;
        }, TavernStools::undo);
    }

    private static void longRows() {
        for (int changes = 11; changes <= 40; changes++) {
            TavernStools x = tavern();
            for (int change = 0; change < changes; change++) {
                x.night();
            }
            for (int left = 7; left >= 0; left--) {
                Checks.due("35: of " + changes, left, x.undo());
                Checks.due("35: of " + changes, changes - 8 + left, x.account(7));
            }
            Checks.due("35: of " + changes, "IllegalStateException", Twins.outcome(x, TavernStools::undo));
        }
    }

    private static void undoAndChangeInTurns() {
        TavernStools x = new TavernStools();
        List<Integer> nights = new ArrayList<>();
        int night = 0;
        for (int turn = 0; turn < 120; turn++) {
            boolean isUndo = turn * 7 % 12 < 5 && !nights.isEmpty();
            if (isUndo) {
                night = nights.remove(nights.size() - 1);
                Checks.due("35: in turns, " + turn, nights.size(), x.undo());
            } else {
                nights.add(night);
                x.night();
                night++;
                if (nights.size() > 8) {
                    nights.remove(0);
                }
            }
            Checks.due("35: in turns, " + turn, night, x.account(7));
            Checks.due("12: in turns, " + turn, nights.size(), x.account(12));
        }
    }

    private static void counts(String name, TavernStools x, Consumer<TavernStools> act) {
        String before = withoutUndo(x);
        int changes = x.account(12);
        act.accept(x);
        Checks.due("Undo: a change, " + name, changes + 1, x.account(12));
        String behind = withoutUndo(x);
        Checks.due("35: undo of " + name, changes, x.undo());
        Checks.due("35: as before " + name, before, withoutUndo(x));
        act.accept(x);
        Checks.due("35: the same again, " + name, behind, withoutUndo(x));
        x.undo();
    }

    private static void eachChangeCounts() {
        counts("stool", tavern(), x -> x.stool(1, 2, 3, true));
        counts("guest", tavern(), x -> x.guest(1, 2));
        counts("cat", tavern(), x -> x.cat(3));
        counts("sit", tavern(), x -> x.sit(2, 2));
        counts("sit elsewhere", tavern(), x -> x.sit(0, 2));
        counts("getUp", tavern(), x -> x.getUp(1));
        counts("coin", tavern(), x -> x.coin(1));
        counts("takeCoin", tavern(), x -> x.takeCoin(0));
        counts("brawl", tavern(), x -> x.brawl(0, 2));
        counts("swap", swapped(), x -> x.swap(2, 0));
        counts("night", tavern(), TavernStools::night);
        counts("run", tavern(), x -> Checks.runText(x, "s1/23|;g1*2;k3;p2>2;u1;c1;b0-2;n"));
    }

    private static TavernStools swapped() {
        TavernStools x = tavern();
        x.sit(2, 2);
        return x;
    }

    /** None of these is among the changes: all that is asked, what is written, saved or refused. */
    private static void noChangeDoesNotCount() {
        List<Consumer<TavernStools>> all = new ArrayList<>(List.of(
                x -> x.stoolOf(0, 0), x -> x.sitterOf(0, 0), x -> x.clashes(true), x -> x.clash(0, 1),
                TavernStools::wouldMove, x -> x.bestSwap(false), x -> x.tilt(0), x -> x.tiltBits(0),
                x -> x.plusTilt(0, 0), x -> x.noiseOf(0), TavernStools::noiseBits, x -> x.tilted(0), x -> x.ranked(0),
                TavernStools::line, x -> x.stoolLine(0), x -> x.character(0), x -> x.append('n'),
                TavernStools::errorPosition, x -> x.refusal(false), x -> x.account(0), TavernStools::isWell,
                TavernStools::meanHeight, TavernStools::save, x -> x.stool(0, 0, 0, true), x -> x.guest(0, 1),
                x -> x.cat(0), x -> x.sit(0, 1), x -> x.getUp(2), x -> x.brawl(2, 2), x -> x.swap(0, 1),
                x -> x.coin(2), x -> x.takeCoin(1), x -> Checks.runText(x, "n;u2"), x -> Checks.runText(x, "n;")));
        for (int number = 0; number < all.size(); number++) {
            TavernStools x = tavern();
            x.night();
            String night = withoutUndo(x);
            Twins.outcome(x, all.get(number));
            Checks.due("Undo: no change, " + number, 1, x.account(12));
            Checks.due("Undo: nothing is changed, " + number, night, withoutUndo(x));
            Checks.due("35: the night is undone, " + number, 0, x.undo());
            Checks.due("35: the night is undone, " + number, withoutUndo(tavern()), withoutUndo(x));
        }
    }

    /** A successful call is a change, also if all is as before. */
    private static void whatMovesNobody() {
        TavernStools x = tavern();
        x.getUp(1);
        Checks.due("11: nobody moves", 0, x.brawl(0, 2));
        Checks.due("12 for the changes", 2, x.account(12));
        Checks.due("8 for the brawls", 1, x.account(8));
        x.getUp(0);
        Checks.due("22: nobody sits", 0, x.night());
        Checks.due("12 for the changes", 4, x.account(12));
        Checks.due("35: undo", 3, x.undo());
        Checks.due("35: undo", 2, x.undo());
        Checks.due("35: undo", 1, x.undo());
        Checks.due("8 for the brawls, undone", 0, x.account(8));
    }

    private static void changesOfBrawlsAndNights() {
        TavernStools x = tavern();
        x.sit(2, 2);
        x.night();
        x.brawl(0, 2);
        int[] what = {5, 7, 8, 9};
        int[] want = {6, 1, 1, 1};
        for (int number = 0; number < 4; number++) {
            Checks.due("32: account " + what[number], want[number], x.account(what[number]));
        }
        x.save();
        x.undo();
        Checks.due("35: the brawl", 0, x.account(8));
        x.undo();
        Checks.due("35: the night", 0, x.account(7));
        Checks.due("35: the coin that it brought", 5, x.account(5));
        Checks.due("35: the coins that nights brought", 0, x.account(9));
        Checks.due("33: all is well", true, x.isWell());
        x.restore();
        for (int number = 0; number < 4; number++) {
            Checks.due("37: account " + what[number], want[number], x.account(what[number]));
        }
        Checks.due("33: all is well", true, x.isWell());
    }

    private static void noSnapshot() {
        Twins.thrown("37: no snapshot", IllegalStateException.class, () -> {
            TavernStools x = new TavernStools();
            x.stool(5, 5, 5, true);
            x.guest(5, 5);
            x.sit(0, 0);
            Checks.append(x, "n");
            x.line();
            return x;
        }, TavernStools::restore);
        Twins.thrown("37: no snapshot at first", IllegalStateException.class, TavernStools::new,
                TavernStools::restore);
        TavernStools x = new TavernStools();
        x.save();
        Checks.due("37: of its own", "IllegalStateException", Twins.outcome(new TavernStools(), TavernStools::restore));
        Checks.due("37: there is one", 0, x.restore());
    }

    private static void snapshotOfAnEmptyTavern() {
        TavernStools x = new TavernStools();
        Checks.due("36: the sitters", 0, x.save());
        x.stool(5, 5, 5, true);
        x.guest(5, 5);
        x.sit(0, 0);
        x.coin(0);
        x.night();
        x.brawl(0, 0);
        Checks.due("37: the sitters", 0, x.restore());
        Checks.due("37: as a new object", Checks.state(new TavernStools()), Checks.state(x));
        for (int sitter = 0; sitter < 12; sitter++) {
            x.cat(1);
        }
        Checks.due("36: twelve sitters", 12, x.save());
        x.undo();
        Checks.due("37: twelve sitters", 12, x.restore());
    }

    private static void snapshotStays() {
        TavernStools x = tavern();
        String saved = withoutUndo(x);
        for (int times = 0; times < 3; times++) {
            x.night();
            x.cat(1);
            x.coin(1);
            x.brawl(0, 2);
            Checks.due("37: the sitters", 3, x.restore());
            Checks.due("37: as in the snapshot", saved, withoutUndo(x));
        }
        Checks.due("37: twice", 3, x.restore());
        Checks.due("37: as in the snapshot", saved, withoutUndo(x));
    }

    private static void snapshotInPlaceOfAnEarlierOne() {
        TavernStools x = tavern();
        x.cat(1);
        Checks.due("36: four sitters", 4, x.save());
        x.cat(1);
        Checks.due("37: the later one", 4, x.restore());
        x.night();
        Checks.due("36: of what is restored", 4, x.save());
        x.night();
        x.restore();
        Checks.due("37: the night of the latest", 1, x.account(7));
    }

    private static void snapshotBesideUndo() {
        TavernStools x = tavern();
        x.night();
        x.save();
        Checks.due("36: save is no change", 1, x.account(12));
        Checks.due("35: undo goes behind the snapshot", 0, x.undo());
        Checks.due("35: no night", 0, x.account(7));
        x.restore();
        Checks.due("37: undo has left the snapshot", 1, x.account(7));
        Checks.due("12: none", 0, x.account(12));
    }

    private static void restoreForgetsAll() {
        for (int changes = 0; changes <= 9; changes++) {
            TavernStools x = tavern();
            for (int change = 0; change < changes; change++) {
                x.night();
            }
            x.restore();
            Checks.due("Undo: restore forgets all " + changes, 0, x.account(12));
            Checks.due("35: none behind restore", "IllegalStateException", Twins.outcome(x, TavernStools::undo));
            x.guest(1, 1);
            Checks.due("12: a new one", 1, x.account(12));
            Checks.due("35: the new one alone", 0, x.undo());
            Checks.due("35: as it was restored", withoutUndo(tavern()), withoutUndo(x));
            Checks.due("35: no more", "IllegalStateException", Twins.outcome(x, TavernStools::undo));
        }
        TavernStools refused = new TavernStools();
        refused.night();
        Twins.outcome(refused, TavernStools::restore);
        Checks.due("37: a restore that throws forgets none", 1, refused.account(12));
    }

    private static void whatIsNeitherUndoneNorSaved() {
        TavernStools x = tavern();
        x.night();
        Checks.append(x, "n;q");
        Twins.outcome(x, TavernStools::run);
        Twins.outcome(x, y -> y.getUp(2));
        x.stoolLine(1);
        Checks.append(x, "n;n");
        String line = Twins.writtenLine(x);
        List<Consumer<TavernStools>> all = List.of(TavernStools::undo, TavernStools::restore, TavernStools::save);
        for (Consumer<TavernStools> act : all) {
            Checks.due("Exceptions: done", "nothing", Twins.outcome(x, act));
            Checks.due("Exceptions: the input stays", 3, x.account(11));
            Checks.due("Exceptions: the line stays", line, Twins.writtenLine(x));
            Checks.due("Exceptions: the error position stays", 2, x.errorPosition());
            Checks.due("Exceptions: the reason stays", "4 2", Twins.reasonOf(x));
        }
        Checks.due("29: the input that stayed", 2, x.run());
        x.restore();
        Checks.due("Exceptions: the input is not saved", 0, x.account(11));
        Checks.due("Exceptions: the error position is not saved", -1, x.errorPosition());
    }
}
