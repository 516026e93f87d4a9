import java.util.ArrayDeque;
import java.util.ArrayList;
import java.util.Comparator;
import java.util.Deque;
import java.util.List;
import java.util.NoSuchElementException;
import java.util.regex.Matcher;
import java.util.regex.Pattern;

/**
 * The document once more, with the Java library's means and other ways than the program's, so that both can be
 * compared on long runs of calls.
 */
final class Model {
    private static final String ORDER = "(?:s\\d\\d?/\\d\\d\\|?|g\\d\\*\\d{1,3}|k\\d{1,3}|p\\d\\d?>\\d\\d?"
            + "|u\\d\\d?|c\\d\\d?|b\\d\\d?-\\d\\d?|n)";
    private static final Pattern TEXT = Pattern.compile(ORDER + "(?:;" + ORDER + ")*");

    private static final class Stool {
        int height;
        int squeak;
        int wobble;
        boolean bar;
        int coins;
    }

    private static final class Sitter {
        int rank;
        int weight;
        int stool = -1;
    }

    private static final class State {
        final List<Stool> stools = new ArrayList<>();
        final List<Sitter> sitters = new ArrayList<>();
        int purse = 6;
        int nights;
        int brawls;
        int brought;

        State copy() {
            State copy = new State();
            for (Stool s : stools) {
                copy.addStool(s.height, s.squeak, s.wobble, s.bar).coins = s.coins;
            }
            for (Sitter s : sitters) {
                copy.addSitter(s.rank, s.weight).stool = s.stool;
            }
            copy.purse = purse;
            copy.nights = nights;
            copy.brawls = brawls;
            copy.brought = brought;
            return copy;
        }

        Stool addStool(int height, int squeak, int wobble, boolean bar) {
            Stool s = new Stool();
            s.height = height;
            s.squeak = squeak;
            s.wobble = wobble;
            s.bar = bar;
            stools.add(s);
            return s;
        }

        Sitter addSitter(int rank, int weight) {
            Sitter s = new Sitter();
            s.rank = rank;
            s.weight = weight;
            sitters.add(s);
            return s;
        }

        int on(int stool) {
            for (int i = 0; i < sitters.size(); i++) {
                if (sitters.get(i).stool == stool) {
                    return i;
                }
            }
            return -1;
        }

        boolean clash(int a, int b) {
            Sitter s = sitters.get(a);
            Sitter t = sitters.get(b);
            if (s.rank < t.rank) {
                return clash(b, a);
            }
            return s.stool >= 0 && t.stool >= 0 && s.rank > t.rank
                    && stools.get(s.stool).height < stools.get(t.stool).height;
        }

        int clashesWith(int a) {
            int count = 0;
            for (int b = 0; b < sitters.size(); b++) {
                count += clash(a, b) ? 1 : 0;
            }
            return count;
        }

        int clashes() {
            int twice = 0;
            for (int a = 0; a < sitters.size(); a++) {
                twice += clashesWith(a);
            }
            return twice / 2;
        }

        boolean fits(int sitter, int stool) {
            return !(sitters.get(sitter).rank == 0 && stools.get(stool).bar);
        }

        List<Integer> ranked() {
            List<Integer> order = numbers(sitters.size());
            order.sort(Comparator.comparing((Integer i) -> -sitters.get(i).rank)
                    .thenComparing(i -> -sitters.get(i).weight).thenComparing(i -> i));
            return order;
        }

        List<Integer> tilted() {
            List<Integer> order = numbers(stools.size());
            order.sort(Comparator.comparing((Integer i) -> -tilt(i)).thenComparing(i -> i));
            return order;
        }

        float tilt(int stool) {
            return (float) stools.get(stool).wobble / (float) stools.get(stool).height;
        }

        float noise(int sitter) {
            Sitter s = sitters.get(sitter);
            return s.stool < 0 ? 0.0f
                    : (float) stools.get(s.stool).squeak * (1.0f + tilt(s.stool)) * (float) s.weight;
        }

        int brawl(int from, int to) {
            List<Integer> who = ranked();
            who.removeIf(i -> sitters.get(i).stool < from || sitters.get(i).stool > to);
            int[] before = sitters.stream().mapToInt(s -> s.stool).toArray();
            List<Integer> free = numbers(stools.size());
            free.removeIf(i -> i < from || i > to);
            free.sort(Comparator.comparing((Integer i) -> -stools.get(i).height).thenComparing(i -> i));
            int moved = 0;
            for (int i : who) {
                int found = -1;
                for (int stool : free) {
                    if (found < 0 && fits(i, stool)) {
                        found = stool;
                    }
                }
                free.remove((Integer) found);
                sitters.get(i).stool = found;
                moved += found == before[i] ? 0 : 1;
            }
            return moved;
        }

        int sum(java.util.function.ToIntFunction<Stool> what) {
            return stools.stream().mapToInt(what).sum();
        }

        int sitting() {
            return (int) sitters.stream().filter(s -> s.stool >= 0).count();
        }

        private static List<Integer> numbers(int count) {
            List<Integer> all = new ArrayList<>();
            for (int i = 0; i < count; i++) {
                all.add(i);
            }
            return all;
        }
    }

    private State now = new State();
    private State saved = null;
    private final Deque<State> past = new ArrayDeque<>();
    private String line = "";
    private String input = "";
    private int error = -1;
    private int reason = 0;
    private int detail = 0;

    private void changing() {
        past.addLast(now.copy());
        if (past.size() > 8) {
            past.removeFirst();
        }
    }

    private void stoolThere(int stool) {
        if (stool < 0 || stool >= now.stools.size()) {
            throw new IndexOutOfBoundsException();
        }
    }

    private void sitterThere(int sitter) {
        if (sitter < 0 || sitter >= now.sitters.size()) {
            throw new IndexOutOfBoundsException();
        }
    }

    private static void within(int number, int least, int most) {
        if (number < least || number > most) {
            throw new IllegalArgumentException();
        }
    }

    private static <T> T at(List<T> list, int place) {
        if (place < 0 || place >= list.size()) {
            throw new NoSuchElementException();
        }
        return list.get(place);
    }

    private void refuseIf(boolean applies, int why, int what) {
        if (applies) {
            reason = why;
            detail = what;
            throw new UnsupportedOperationException();
        }
    }

    int stool(int height, int squeak, int wobble, boolean isBar) {
        within(height, 1, 40);
        within(squeak, 0, 9);
        within(wobble, 0, 9);
        refuseIf(now.stools.size() == 12, 1, 12);
        changing();
        now.addStool(height, squeak, wobble, isBar);
        return now.stools.size() - 1;
    }

    int guest(int rank, int weight) {
        within(rank, 1, 9);
        return come(rank, weight);
    }

    int cat(int weight) {
        return come(0, weight);
    }

    private int come(int rank, int weight) {
        within(weight, 1, 200);
        refuseIf(now.sitters.size() == 12, 1, 12);
        changing();
        now.addSitter(rank, weight);
        return now.sitters.size() - 1;
    }

    int sit(int sitter, int stool) {
        sitterThere(sitter);
        stoolThere(stool);
        int there = now.on(stool);
        refuseIf(there == sitter, 4, sitter);
        refuseIf(there >= 0, 2, there);
        refuseIf(!now.fits(sitter, stool), 3, stool);
        changing();
        now.sitters.get(sitter).stool = stool;
        return now.clashesWith(sitter);
    }

    int getUp(int sitter) {
        sitterThere(sitter);
        int stool = now.sitters.get(sitter).stool;
        refuseIf(stool < 0, 4, sitter);
        changing();
        now.sitters.get(sitter).stool = -1;
        return stool;
    }

    int stoolOf(int stool, int what) {
        stoolThere(stool);
        within(what, 0, 5);
        Stool s = now.stools.get(stool);
        return new int[] {s.height, s.squeak, s.wobble, s.bar ? 1 : 0, s.coins, now.on(stool)}[what];
    }

    int sitterOf(int sitter, int what) {
        sitterThere(sitter);
        within(what, 0, 4);
        Sitter s = now.sitters.get(sitter);
        return new int[] {s.rank, s.weight, s.stool, now.clashesWith(sitter), s.rank == 0 ? 1 : 0}[what];
    }

    int clashes() {
        return now.clashes();
    }

    int clash(int one, int other) {
        sitterThere(one);
        sitterThere(other);
        return now.clash(one, other) ? 1 : 0;
    }

    int brawl(int from, int to) {
        stoolThere(from);
        stoolThere(to);
        within(to, from, 12);
        boolean isEmpty = now.sitters.stream().noneMatch(s -> s.stool >= from && s.stool <= to);
        refuseIf(isEmpty, 8, now.sitting());
        changing();
        now.brawls++;
        return now.brawl(from, to);
    }

    int wouldMove() {
        return now.copy().brawl(0, now.stools.size() - 1);
    }

    int swap(int one, int other) {
        sitterThere(one);
        sitterThere(other);
        if (one == other) {
            throw new IllegalArgumentException();
        }
        Sitter s = now.sitters.get(one);
        Sitter t = now.sitters.get(other);
        refuseIf(s.stool < 0, 4, one);
        refuseIf(t.stool < 0, 4, other);
        refuseIf(!now.fits(one, t.stool), 3, t.stool);
        refuseIf(!now.fits(other, s.stool), 3, s.stool);
        changing();
        s = now.sitters.get(one);
        t = now.sitters.get(other);
        int kept = s.stool;
        s.stool = t.stool;
        t.stool = kept;
        return now.clashes();
    }

    int bestSwap(boolean isSecond) {
        int best = now.clashes();
        int[] pair = null;
        for (int a = 0; a < now.sitters.size(); a++) {
            for (int b = a + 1; b < now.sitters.size(); b++) {
                State then = now.copy();
                Sitter s = then.sitters.get(a);
                Sitter t = then.sitters.get(b);
                if (s.stool >= 0 && t.stool >= 0 && now.fits(a, t.stool) && now.fits(b, s.stool)) {
                    int kept = s.stool;
                    s.stool = t.stool;
                    t.stool = kept;
                    if (then.clashes() < best) {
                        best = then.clashes();
                        pair = new int[] {a, b};
                    }
                }
            }
        }
        if (pair == null) {
            throw new NoSuchElementException();
        }
        return pair[isSecond ? 1 : 0];
    }

    int coin(int stool) {
        stoolThere(stool);
        refuseIf(now.purse == 0, 5, now.sum(s -> s.coins));
        refuseIf(now.stools.get(stool).wobble == 0, 6, now.stools.get(stool).coins);
        changing();
        now.purse--;
        now.stools.get(stool).coins++;
        return --now.stools.get(stool).wobble;
    }

    int takeCoin(int stool) {
        stoolThere(stool);
        refuseIf(now.stools.get(stool).coins == 0, 7, now.stools.get(stool).wobble);
        changing();
        now.purse++;
        Stool s = now.stools.get(stool);
        s.coins--;
        s.wobble = s.wobble == 9 ? 9 : s.wobble + 1;
        return s.wobble;
    }

    float tilt(int stool) {
        stoolThere(stool);
        return now.tilt(stool);
    }

    int plusTilt(int bits, int stool) {
        stoolThere(stool);
        within(bits, 0, 1232348159);
        return Float.floatToIntBits(Float.intBitsToFloat(bits) + now.tilt(stool));
    }

    float noiseOf(int sitter) {
        sitterThere(sitter);
        return now.noise(sitter);
    }

    int noiseBits() {
        float sum = 0.0f;
        for (int stool = 0; stool < now.stools.size(); stool++) {
            if (now.on(stool) >= 0) {
                sum += now.noise(now.on(stool));
            }
        }
        return Float.floatToIntBits(sum);
    }

    int night() {
        changing();
        now.nights++;
        int coins = 0;
        for (Sitter sitter : now.sitters) {
            if (sitter.stool >= 0) {
                Stool s = now.stools.get(sitter.stool);
                if (s.wobble == 0 && sitter.rank > 0) {
                    coins++;
                }
                if (sitter.weight > 100 && s.wobble < 9) {
                    s.wobble++;
                }
                if (s.wobble > 0 && s.squeak < 9) {
                    s.squeak++;
                }
            }
        }
        now.purse += coins;
        now.brought += coins;
        return coins;
    }

    int tilted(int place) {
        return at(now.tilted(), place);
    }

    int ranked(int place) {
        return at(now.ranked(), place);
    }

    int line() {
        line = "";
        for (int stool = 0; stool < now.stools.size(); stool++) {
            int who = now.on(stool);
            boolean isCat = who >= 0 && now.sitters.get(who).rank == 0;
            line += now.stools.get(stool).bar ? "|" : "";
            line += who < 0 ? '.' : (isCat ? "ABCDEFGHIJKL" : "abcdefghijkl").charAt(who);
        }
        return line.length();
    }

    int stoolLine(int stool) {
        stoolThere(stool);
        Stool s = now.stools.get(stool);
        line = stool + "^" + s.height + "~" + s.wobble + "'".repeat(s.squeak) + "o".repeat(s.coins);
        return line.length();
    }

    int character(int index) {
        if (index < 0 || index >= line.length()) {
            throw new IndexOutOfBoundsException();
        }
        return line.charAt(index);
    }

    int append(char c) {
        if (input.length() == 60) {
            throw new IllegalStateException();
        }
        input += c;
        return input.length();
    }

    /** The longest part of the text from its start that a text could continue. */
    private static int errorOf(String text) {
        if (TEXT.matcher(text).matches()) {
            return -1;
        }
        int most = 0;
        for (int length = 0; length <= text.length(); length++) {
            Matcher matcher = TEXT.matcher(text.substring(0, length));
            most = matcher.matches() || matcher.hitEnd() ? length : most;
        }
        return most;
    }

    int run() {
        String text = input;
        input = "";
        error = errorOf(text);
        if (error >= 0) {
            throw new IllegalArgumentException();
        }
        State before = now.copy();
        List<State> pastBefore = new ArrayList<>(past);
        String[] orders = text.split(";");
        Class<?> failed = null;
        for (int i = 0; i < orders.length && failed == null; i++) {
            failed = failureOf(orders[i]);
        }
        past.clear();
        past.addAll(pastBefore);
        State behind = now;
        now = before;
        if (failed == UnsupportedOperationException.class) {
            throw new UnsupportedOperationException();
        }
        if (failed != null) {
            throw new IllegalArgumentException();
        }
        changing();
        now = behind;
        return orders.length;
    }

    private Class<?> failureOf(String order) {
        try {
            carryOut(order);
            return null;
        } catch (UnsupportedOperationException | IllegalArgumentException | IndexOutOfBoundsException e) {
            return e.getClass();
        }
    }

    private void carryOut(String order) {
        String[] parts = order.substring(1).split("[^0-9]");
        int one = order.equals("n") ? 0 : Integer.parseInt(parts[0]);
        int other = parts.length < 2 ? 0 : Integer.parseInt(parts[1]);
        switch (order.charAt(0)) {
            case 's' -> stool(one, other / 10, other % 10, order.endsWith("|"));
            case 'g' -> guest(one, other);
            case 'k' -> cat(one);
            case 'p' -> sit(one, other);
            case 'u' -> getUp(one);
            case 'c' -> coin(one);
            case 'b' -> brawl(one, other);
            default -> night();
        }
    }

    int errorPosition() {
        return error;
    }

    int refusal(boolean isDetail) {
        if (reason == 0) {
            throw new NoSuchElementException();
        }
        return isDetail ? detail : reason;
    }

    int account(int what) {
        within(what, 0, 12);
        int cats = (int) now.sitters.stream().filter(s -> s.rank == 0).count();
        return new int[] {now.stools.size(), now.sum(s -> s.bar ? 1 : 0), now.sitters.size(), cats, now.sitting(),
            now.purse, now.sum(s -> s.coins), now.nights, now.brawls, now.brought, now.sum(s -> s.wobble),
            input.length(), past.size()}[what];
    }

    double meanHeight() {
        if (now.sitting() == 0) {
            throw new ArithmeticException();
        }
        double sum = 0;
        for (Sitter s : now.sitters) {
            sum += s.stool < 0 ? 0 : now.stools.get(s.stool).height;
        }
        return sum / now.sitting();
    }

    int undo() {
        if (past.isEmpty()) {
            throw new IllegalStateException();
        }
        now = past.removeLast();
        return past.size();
    }

    int save() {
        saved = now.copy();
        return now.sitters.size();
    }

    int restore() {
        if (saved == null) {
            throw new IllegalStateException();
        }
        now = saved.copy();
        past.clear();
        return now.sitters.size();
    }
}
