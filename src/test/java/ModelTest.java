import java.util.function.Supplier;

/** Long runs of calls, on the program and on the model: each call's answer or exception must be one. */
public final class ModelTest {
    private static final int RUNS = 2000;
    // The state at the end takes up to 147 calls more; with them a run keeps to the 512 of the document.
    private static final int CALLS = 364;

    private final TavernStools x = new TavernStools();
    private final Model m = new Model();
    private final StringBuilder told = new StringBuilder();
    private long seed;
    private int calls = 0;
    private boolean same = true;

    private ModelTest(long seed) {
        this.seed = seed;
    }

    public static void main(String[] args) {
        for (int run = 0; run < RUNS; run++) {
            new ModelTest(run).play();
        }
        Checks.end();
    }

    /** A fixed row of numbers: the same runs each time. */
    private int next(int bound) {
        seed = seed * 6364136223846793005L + 1442695040888963407L;
        return (int) ((seed >>> 33) % bound);
    }

    /** Mostly a number in the range, now and then one near its ends or far off. */
    private int number(int least, int most) {
        switch (next(24)) {
            case 0:
                return least - 1;
            case 1:
                return most + 1;
            case 2:
                return next(2) == 0 ? Integer.MIN_VALUE : Integer.MAX_VALUE;
            default:
                return least + next(most - least + 1);
        }
    }

    private int aStool() {
        return number(0, Math.max(0, m.account(0) - 1));
    }

    private int aSitter() {
        return number(0, Math.max(0, m.account(2) - 1));
    }

    private static Object answer(Supplier<Object> call) {
        try {
            return call.get();
        } catch (RuntimeException e) {
            return e.getClass().getSimpleName();
        }
    }

    private void both(String call, Supplier<Object> ofProgram, Supplier<Object> ofModel) {
        if (!same || calls >= CALLS) {
            return;
        }
        calls++;
        Object want = answer(ofModel);
        Object got = answer(ofProgram);
        told.append(call).append(" = ").append(want).append('\n');
        same = want.equals(got);
        Checks.due(same ? call : "behind\n" + told + call, want, got);
    }

    private void play() {
        int furnished = next(4);
        while (same && calls < CALLS) {
            if (calls < 10 * furnished) {
                furnish();
            } else {
                step();
            }
        }
        if (same) {
            String want = Checks.state(m::account, m::stoolOf, m::sitterOf);
            Checks.due("behind\n" + told + "the state", want, Checks.state(x));
        }
    }

    private void furnish() {
        switch (next(4)) {
            case 0:
                stool();
                break;
            case 1:
                comer();
                break;
            default:
                sit();
                break;
        }
    }

    private void step() {
        switch (next(9)) {
            case 0:
                furnish();
                break;
            case 1:
                sit();
                break;
            case 2:
            case 3:
                changeSeats();
                break;
            case 4:
                coinsAndNights();
                break;
            case 5:
                text();
                break;
            case 6:
                undoAndSnapshot();
                break;
            case 7:
                ask();
                break;
            default:
                askMore();
                break;
        }
    }

    private void stool() {
        int height = number(1, next(2) == 0 ? 40 : 4);
        int squeak = number(0, 9);
        int wobble = number(0, next(2) == 0 ? 9 : 1);
        boolean isBar = next(4) == 0;
        both("stool(" + height + ", " + squeak + ", " + wobble + ", " + isBar + ")",
                () -> x.stool(height, squeak, wobble, isBar), () -> m.stool(height, squeak, wobble, isBar));
    }

    private void comer() {
        int weight = next(5) == 0 ? number(99, 102) : number(1, 200);
        int rank = number(1, next(2) == 0 ? 9 : 2);
        if (next(3) == 0) {
            both("cat(" + weight + ")", () -> x.cat(weight), () -> m.cat(weight));
        } else {
            both("guest(" + rank + ", " + weight + ")", () -> x.guest(rank, weight), () -> m.guest(rank, weight));
        }
    }

    private void sit() {
        int sitter = aSitter();
        int stool = aStool();
        both("sit(" + sitter + ", " + stool + ")", () -> x.sit(sitter, stool), () -> m.sit(sitter, stool));
    }

    private void changeSeats() {
        int one = aSitter();
        int other = aSitter();
        int from = aStool();
        int to = aStool();
        switch (next(5)) {
            case 0:
                both("getUp(" + one + ")", () -> x.getUp(one), () -> m.getUp(one));
                break;
            case 1:
                both("brawl(" + from + ", " + to + ")", () -> x.brawl(from, to), () -> m.brawl(from, to));
                break;
            case 2:
                both("swap(" + one + ", " + other + ")", () -> x.swap(one, other), () -> m.swap(one, other));
                break;
            case 3:
                both("bestSwap(false)", () -> x.bestSwap(false), () -> m.bestSwap(false));
                both("bestSwap(true)", () -> x.bestSwap(true), () -> m.bestSwap(true));
                break;
            default:
                both("wouldMove()", () -> x.wouldMove(), () -> m.wouldMove());
                break;
        }
    }

    private void coinsAndNights() {
        int stool = aStool();
        switch (next(4)) {
            case 0:
                both("takeCoin(" + stool + ")", () -> x.takeCoin(stool), () -> m.takeCoin(stool));
                break;
            case 1:
                both("night()", () -> x.night(), () -> m.night());
                break;
            default:
                both("coin(" + stool + ")", () -> x.coin(stool), () -> m.coin(stool));
                break;
        }
    }

    private String order() {
        int stool = next(13);
        int sitter = next(13);
        switch (next(12)) {
            case 0:
                return "s" + next(45) + "/" + next(10) + next(10) + (next(2) == 0 ? "|" : "");
            case 1:
                return "g" + next(10) + "*" + next(220);
            case 2:
                return "k" + next(220);
            case 3:
                return "u" + next(6);
            case 4:
                return "c" + next(6);
            case 5:
                return "b" + next(3) + "-" + next(8);
            case 6:
                return "n";
            case 7:
                return "p0" + next(10) + ">" + next(4);
            default:
                return "p" + (next(8) == 0 ? sitter : next(5)) + ">" + (next(8) == 0 ? stool : next(5));
        }
    }

    private void text() {
        StringBuilder text = new StringBuilder(order());
        for (int more = next(4); more > 0; more--) {
            text.append(';').append(order());
        }
        if (next(4) == 0) {
            text.setCharAt(next(text.length()), ";/*>-|nsgkpucb0123456789x~ \u0665".charAt(next(28)));
        }
        if (next(12) == 0) {
            text.setLength(next(text.length()));
        }
        if (next(20) == 0) {
            text.append(";n".repeat(30));
        }
        for (int index = 0; index < text.length(); index++) {
            char c = text.charAt(index);
            both("append('" + c + "')", () -> x.append(c), () -> m.append(c));
        }
        if (next(6) > 0) {
            both("run()", () -> x.run(), () -> m.run());
            both("errorPosition()", () -> x.errorPosition(), () -> m.errorPosition());
        }
    }

    private void undoAndSnapshot() {
        switch (next(7)) {
            case 0:
                both("save()", () -> x.save(), () -> m.save());
                break;
            case 1:
                both("restore()", () -> x.restore(), () -> m.restore());
                break;
            case 2:
                for (int times = next(10); times > 0; times--) {
                    both("undo()", () -> x.undo(), () -> m.undo());
                }
                break;
            default:
                both("undo()", () -> x.undo(), () -> m.undo());
                break;
        }
    }

    private void ask() {
        int stool = aStool();
        int sitter = aSitter();
        int other = aSitter();
        int what = number(0, 12);
        switch (next(8)) {
            case 0:
                both("stoolOf(" + stool + ", " + what / 2 + ")", () -> x.stoolOf(stool, what / 2),
                        () -> m.stoolOf(stool, what / 2));
                break;
            case 1:
                both("sitterOf(" + sitter + ", " + what / 2 + ")", () -> x.sitterOf(sitter, what / 2),
                        () -> m.sitterOf(sitter, what / 2));
                break;
            case 2:
                both("clashes(false)", () -> x.clashes(false), () -> m.clashes());
                both("clashes(true)", () -> x.clashes(true), () -> m.clashes());
                break;
            case 3:
                both("clash(" + sitter + ", " + other + ")", () -> x.clash(sitter, other) ? 1 : 0,
                        () -> m.clash(sitter, other));
                break;
            case 4:
                both("account(" + what + ")", () -> x.account(what), () -> m.account(what));
                break;
            case 5:
                both("isWell()", () -> x.isWell(), () -> true);
                break;
            case 6:
                both("meanHeight()", () -> x.meanHeight(), () -> m.meanHeight());
                break;
            default:
                both("refusal(false)", () -> x.refusal(false), () -> m.refusal(false));
                both("refusal(true)", () -> x.refusal(true), () -> m.refusal(true));
                break;
        }
    }

    private void askMore() {
        int stool = aStool();
        int sitter = aSitter();
        int bits = next(3) == 0 ? number(0, 1232348159) : 1000000000 + next(130000000);
        int place = number(0, 11);
        switch (next(9)) {
            case 0:
                both("tilt(" + stool + ")", () -> x.tilt(stool), () -> m.tilt(stool));
                break;
            case 1:
                both("tiltBits(" + stool + ")", () -> x.tiltBits(stool), () -> Float.floatToIntBits(m.tilt(stool)));
                break;
            case 2:
                both("plusTilt(" + bits + ", " + stool + ")", () -> x.plusTilt(bits, stool),
                        () -> m.plusTilt(bits, stool));
                break;
            case 3:
                both("noiseOf(" + sitter + ")", () -> x.noiseOf(sitter), () -> m.noiseOf(sitter));
                break;
            case 4:
                both("noiseBits()", () -> x.noiseBits(), () -> m.noiseBits());
                break;
            case 5:
                both("tilted(" + place + ")", () -> x.tilted(place), () -> m.tilted(place));
                break;
            case 6:
                both("ranked(" + place + ")", () -> x.ranked(place), () -> m.ranked(place));
                break;
            case 7:
                both("line()", () -> x.line(), () -> m.line());
                both("character(" + place + ")", () -> (int) x.character(place), () -> m.character(place));
                break;
            default:
                both("stoolLine(" + stool + ")", () -> x.stoolLine(stool), () -> m.stoolLine(stool));
                both("character(" + 2 * place + ")", () -> (int) x.character(2 * place),
                        () -> m.character(2 * place));
                break;
        }
    }
}
