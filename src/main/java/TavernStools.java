import java.util.NoSuchElementException;

/** A canon of tavern stools, as ../shared/DOC.md promises it. */
public final class TavernStools {
    private static final int MOST = 12;
    private static final int MOST_HEIGHT = 40;
    private static final int MOST_WEIGHT = 200;
    private static final int MOST_BITS = 1232348159;
    private static final int TOP_DIGIT = 9;
    private static final int FIRST_COINS = 6;
    private static final int HEAVY = 100;
    private static final int NONE = -1;

    // What a change answers, in place of a number, if it cannot be made.
    private static final int OUTSIDE = -1;
    private static final int WRONG = -2;
    private static final int REFUSED = -3;

    private static final int FULL = 1;
    private static final int TAKEN = 2;
    private static final int CAT_AT_BAR = 3;
    private static final int SITS_OR_STANDS = 4;
    private static final int NO_COINS = 5;
    private static final int NO_WOBBLE = 6;
    private static final int NO_COIN_UNDER = 7;
    private static final int NOBODY_SITS = 8;

    private final Tavern tavern = new Tavern();
    private final Tavern trial = new Tavern();
    private final Tavern snapshot = new Tavern();
    private final History history = new History();
    private final Text text = new Text();
    private final Line written = new Line();
    private boolean hasSnapshot = false;
    private int errorAt = NONE;
    private int lastReason = 0;
    private int lastDetail = 0;

    public TavernStools() {
    }

    // Stools and sitters.

    public int stool(int height, int squeak, int wobble, boolean isBar)
            throws IllegalArgumentException, UnsupportedOperationException {
        history.prepare(tavern);
        return settled(setUpStool(height, squeak, wobble, isBar));
    }

    public int guest(int rank, int weight) throws IllegalArgumentException, UnsupportedOperationException {
        history.prepare(tavern);
        return settled(letGuestCome(rank, weight));
    }

    public int cat(int weight) throws IllegalArgumentException, UnsupportedOperationException {
        history.prepare(tavern);
        return settled(letSitterCome(0, weight));
    }

    public int sit(int sitter, int stool) throws IndexOutOfBoundsException, UnsupportedOperationException {
        history.prepare(tavern);
        return settled(seat(sitter, stool));
    }

    public int getUp(int sitter) throws IndexOutOfBoundsException, UnsupportedOperationException {
        history.prepare(tavern);
        return settled(letGetUp(sitter));
    }

    public int stoolOf(int stool, int what) throws IndexOutOfBoundsException, IllegalArgumentException {
        requireStool(stool);
        if (what < 0 || what >= Tavern.STOOL_NUMBERS) {
            throw new IllegalArgumentException("no such number of a stool");
        }
        return tavern.ofStool(stool, what);
    }

    public int sitterOf(int sitter, int what) throws IndexOutOfBoundsException, IllegalArgumentException {
        requireSitter(sitter);
        switch (what) {
            case 0:
                return tavern.ofSitter(sitter, Tavern.RANK);
            case 1:
                return tavern.ofSitter(sitter, Tavern.WEIGHT);
            case 2:
                return tavern.ofSitter(sitter, Tavern.PLACE);
            case 3:
                return tavern.clashesWith(sitter);
            case 4:
                return tavern.ofSitter(sitter, Tavern.RANK) == 0 ? 1 : 0;
            default:
                throw new IllegalArgumentException("no such number of a sitter");
        }
    }

    // Canon, brawls and swaps.

    public int clashes(boolean isAgain) {
        return isAgain ? tavern.clashesByStools() : tavern.clashesByPairs();
    }

    public boolean clash(int one, int other) throws IndexOutOfBoundsException {
        requireSitter(one);
        requireSitter(other);
        return tavern.areClashing(one, other);
    }

    public int brawl(int from, int to)
            throws IndexOutOfBoundsException, IllegalArgumentException, UnsupportedOperationException {
        history.prepare(tavern);
        return settled(letBrawl(from, to));
    }

    public int wouldMove() {
        trial.copy(tavern);
        return trial.seatAnew(0, tavern.stools - 1);
    }

    public int swap(int one, int other)
            throws IndexOutOfBoundsException, IllegalArgumentException, UnsupportedOperationException {
        history.prepare(tavern);
        return settled(letSwap(one, other));
    }

    public int bestSwap(boolean isSecond) throws NoSuchElementException {
        int pair = bestPair();
        if (pair == NONE) {
            throw new NoSuchElementException("no swap leaves fewer clashes");
        }
        return isSecond ? pair % MOST : pair / MOST;
    }

    // Coins, tilts, noise and nights.

    public int coin(int stool) throws IndexOutOfBoundsException, UnsupportedOperationException {
        history.prepare(tavern);
        return settled(putCoin(stool));
    }

    public int takeCoin(int stool) throws IndexOutOfBoundsException, UnsupportedOperationException {
        history.prepare(tavern);
        return settled(takeCoinBack(stool));
    }

    public float tilt(int stool) throws IndexOutOfBoundsException {
        requireStool(stool);
        return tavern.tiltAt(stool);
    }

    public int tiltBits(int stool) throws IndexOutOfBoundsException {
        requireStool(stool);
        return Floats.toBits(tavern.tiltAt(stool));
    }

    public int plusTilt(int bits, int stool) throws IndexOutOfBoundsException, IllegalArgumentException {
        requireStool(stool);
        if (bits < 0 || bits > MOST_BITS) {
            throw new IllegalArgumentException("the bits are out of range");
        }
        return Floats.toBits(Floats.fromBits(bits) + tavern.tiltAt(stool));
    }

    public float noiseOf(int sitter) throws IndexOutOfBoundsException {
        requireSitter(sitter);
        return tavern.noiseAt(tavern.ofSitter(sitter, Tavern.PLACE));
    }

    public int noiseBits() {
        return Floats.toBits(tavern.noiseOfAll());
    }

    public int night() {
        history.prepare(tavern);
        return settled(tavern.passNight());
    }

    public int tilted(int place) throws NoSuchElementException {
        int stool = tavern.tiltedAt(place);
        if (stool == NONE) {
            throw new NoSuchElementException("no such place by tilt");
        }
        return stool;
    }

    public int ranked(int place) throws NoSuchElementException {
        int sitter = tavern.rankedAt(place);
        if (sitter == NONE) {
            throw new NoSuchElementException("no such place by rank");
        }
        return sitter;
    }

    // Lines, texts, accounts, undo and snapshot.

    public int line() {
        written.clear();
        for (int stool = 0; stool < tavern.stools; stool++) {
            writeSeat(stool);
        }
        return written.length;
    }

    public int stoolLine(int stool) throws IndexOutOfBoundsException {
        requireStool(stool);
        written.clear();
        written.addNumber(stool);
        written.add('^');
        written.addNumber(tavern.ofStool(stool, Tavern.HEIGHT));
        written.add('~');
        written.addNumber(tavern.ofStool(stool, Tavern.WOBBLE));
        written.addTimes('\'', tavern.ofStool(stool, Tavern.SQUEAK));
        written.addTimes('o', tavern.ofStool(stool, Tavern.COINS));
        return written.length;
    }

    public char character(int index) throws IndexOutOfBoundsException {
        if (index < 0 || index >= written.length) {
            throw new IndexOutOfBoundsException("no such index in the line");
        }
        return written.signAt(index);
    }

    public int append(char c) throws IllegalStateException {
        if (text.length >= Text.MOST_SIGNS) {
            throw new IllegalStateException("the input is full");
        }
        text.add(c);
        return text.length;
    }

    public int run() throws IllegalArgumentException, UnsupportedOperationException {
        errorAt = text.readOrders();
        text.clear();
        if (errorAt != NONE) {
            throw new IllegalArgumentException("the text has an error");
        }
        history.prepare(tavern);
        int answer = 0;
        for (int order = 0; order < text.orders && answer >= 0; order++) {
            answer = carryOut(order);
        }
        if (answer < 0) {
            history.takeBack(tavern);
        }
        if (answer == REFUSED) {
            throw new UnsupportedOperationException("an order is refused");
        }
        if (answer < 0) {
            throw new IllegalArgumentException("an order has a wrong number");
        }
        history.keep();
        return text.orders;
    }

    public int errorPosition() {
        return errorAt;
    }

    public int refusal(boolean isDetail) throws NoSuchElementException {
        if (lastReason == 0) {
            throw new NoSuchElementException("nothing was refused");
        }
        return isDetail ? lastDetail : lastReason;
    }

    public int account(int what) throws IllegalArgumentException {
        switch (what) {
            case 0:
                return tavern.stools;
            case 1:
                return tavern.sumOfStools(Tavern.BAR);
            case 2:
                return tavern.sitters;
            case 3:
                return tavern.cats();
            case 4:
                return tavern.takenStools(0, tavern.stools - 1);
            case 5:
                return tavern.purse;
            case 6:
                return tavern.sumOfStools(Tavern.COINS);
            case 7:
                return tavern.nights;
            case 8:
                return tavern.brawls;
            case 9:
                return tavern.brought;
            case 10:
                return tavern.sumOfStools(Tavern.WOBBLE);
            case 11:
                return text.length;
            case 12:
                return history.kept;
            default:
                throw new IllegalArgumentException("no such account");
        }
    }

    public boolean isWell() {
        return tavern.clashesByPairs() == tavern.clashesByStools()
                && tavern.stoolsAreWell()
                && tavern.sittersAreWell()
                && tavern.purse + tavern.sumOfStools(Tavern.COINS) == FIRST_COINS + tavern.brought;
    }

    public double meanHeight() throws ArithmeticException {
        int taken = tavern.takenStools(0, tavern.stools - 1);
        if (taken < 1) {
            throw new ArithmeticException("nobody sits");
        }
        return (double) tavern.sumOfTakenHeights() / (double) taken;
    }

    public int undo() throws IllegalStateException {
        if (history.kept < 1) {
            throw new IllegalStateException("no change can be undone");
        }
        history.stepBack(tavern);
        return history.kept;
    }

    public int save() {
        snapshot.copy(tavern);
        hasSnapshot = true;
        return tavern.sitters;
    }

    public int restore() throws IllegalStateException {
        if (!hasSnapshot) {
            throw new IllegalStateException("there is no snapshot");
        }
        tavern.copy(snapshot);
        history.forget();
        return tavern.sitters;
    }

    private void requireStool(int stool) throws IndexOutOfBoundsException {
        if (!tavern.hasStool(stool)) {
            throw new IndexOutOfBoundsException("no such stool");
        }
    }

    private void requireSitter(int sitter) throws IndexOutOfBoundsException {
        if (!tavern.hasSitter(sitter)) {
            throw new IndexOutOfBoundsException("no such sitter");
        }
    }

    /** Ends a call that changes: keeps the state before it for undo, or throws what its answer stands for. */
    private int settled(int answer)
            throws IndexOutOfBoundsException, IllegalArgumentException, UnsupportedOperationException {
        if (answer == OUTSIDE) {
            throw new IndexOutOfBoundsException("no such stool or sitter");
        }
        if (answer == WRONG) {
            throw new IllegalArgumentException("a number is out of range");
        }
        if (answer == REFUSED) {
            throw new UnsupportedOperationException("it is refused");
        }
        history.keep();
        return answer;
    }

    private int refuse(int reason, int detail) {
        lastReason = reason;
        lastDetail = detail;
        return REFUSED;
    }

    // The changes, for the face and for the orders of texts alike: each answers its number, or OUTSIDE, WRONG or
    // REFUSED, and then has changed nothing.

    private int setUpStool(int height, int squeak, int wobble, boolean isBar) {
        if (height < 1 || height > MOST_HEIGHT || squeak < 0 || squeak > TOP_DIGIT
                || wobble < 0 || wobble > TOP_DIGIT) {
            return WRONG;
        }
        if (tavern.stools >= MOST) {
            return refuse(FULL, tavern.stools);
        }
        return tavern.addStool(height, squeak, wobble, isBar);
    }

    private int letGuestCome(int rank, int weight) {
        return rank < 1 || rank > TOP_DIGIT ? WRONG : letSitterCome(rank, weight);
    }

    private int letSitterCome(int rank, int weight) {
        if (weight < 1 || weight > MOST_WEIGHT) {
            return WRONG;
        }
        if (tavern.sitters >= MOST) {
            return refuse(FULL, tavern.sitters);
        }
        return tavern.addSitter(rank, weight);
    }

    private int seat(int sitter, int stool) {
        if (!tavern.hasSitter(sitter) || !tavern.hasStool(stool)) {
            return OUTSIDE;
        }
        int there = tavern.ofStool(stool, Tavern.SITTER);
        if (there == sitter) {
            return refuse(SITS_OR_STANDS, sitter);
        }
        if (there != NONE) {
            return refuse(TAKEN, there);
        }
        if (!tavern.maySit(sitter, stool)) {
            return refuse(CAT_AT_BAR, stool);
        }
        tavern.leave(sitter);
        tavern.take(sitter, stool);
        return tavern.clashesWith(sitter);
    }

    private int letGetUp(int sitter) {
        if (!tavern.hasSitter(sitter)) {
            return OUTSIDE;
        }
        if (!tavern.sits(sitter)) {
            return refuse(SITS_OR_STANDS, sitter);
        }
        return tavern.leave(sitter);
    }

    private int letBrawl(int from, int to) {
        if (!tavern.hasStool(from) || !tavern.hasStool(to)) {
            return OUTSIDE;
        }
        if (to < from) {
            return WRONG;
        }
        if (tavern.takenStools(from, to) == 0) {
            return refuse(NOBODY_SITS, tavern.takenStools(0, tavern.stools - 1));
        }
        tavern.brawls++;
        return tavern.seatAnew(from, to);
    }

    private int letSwap(int one, int other) {
        if (!tavern.hasSitter(one) || !tavern.hasSitter(other)) {
            return OUTSIDE;
        }
        if (one == other) {
            return WRONG;
        }
        if (!tavern.sits(one)) {
            return refuse(SITS_OR_STANDS, one);
        }
        if (!tavern.sits(other)) {
            return refuse(SITS_OR_STANDS, other);
        }
        int stoolOfOne = tavern.ofSitter(one, Tavern.PLACE);
        int stoolOfOther = tavern.ofSitter(other, Tavern.PLACE);
        if (!tavern.maySit(one, stoolOfOther)) {
            return refuse(CAT_AT_BAR, stoolOfOther);
        }
        if (!tavern.maySit(other, stoolOfOne)) {
            return refuse(CAT_AT_BAR, stoolOfOne);
        }
        tavern.exchange(one, other);
        return tavern.clashesByPairs();
    }

    private int putCoin(int stool) {
        if (!tavern.hasStool(stool)) {
            return OUTSIDE;
        }
        if (tavern.purse < 1) {
            return refuse(NO_COINS, tavern.sumOfStools(Tavern.COINS));
        }
        if (tavern.ofStool(stool, Tavern.WOBBLE) == 0) {
            return refuse(NO_WOBBLE, tavern.ofStool(stool, Tavern.COINS));
        }
        return tavern.addCoin(stool);
    }

    private int takeCoinBack(int stool) {
        if (!tavern.hasStool(stool)) {
            return OUTSIDE;
        }
        if (tavern.ofStool(stool, Tavern.COINS) == 0) {
            return refuse(NO_COIN_UNDER, tavern.ofStool(stool, Tavern.WOBBLE));
        }
        return tavern.removeCoin(stool);
    }

    private int carryOut(int order) {
        int one = text.number(order, 1);
        int other = text.number(order, 2);
        switch (text.number(order, 0)) {
            case 's':
                return setUpStool(one, other, text.number(order, 3), text.number(order, 4) == 1);
            case 'g':
                return letGuestCome(one, other);
            case 'k':
                return letSitterCome(0, one);
            case 'p':
                return seat(one, other);
            case 'u':
                return letGetUp(one);
            case 'c':
                return putCoin(one);
            case 'b':
                return letBrawl(one, other);
            case 'n':
                return tavern.passNight();
            default:
                return WRONG;
        }
    }

    /** The two sitters of the best swap as one number, the first times MOST plus the second, or NONE. */
    private int bestPair() {
        int fewest = tavern.clashesByPairs();
        int best = NONE;
        trial.copy(tavern);
        for (int one = 0; one < tavern.sitters; one++) {
            for (int other = one + 1; other < tavern.sitters; other++) {
                if (tavern.canExchange(one, other)) {
                    trial.exchange(one, other);
                    int left = trial.clashesByPairs();
                    trial.exchange(one, other);
                    if (left < fewest) {
                        fewest = left;
                        best = one * MOST + other;
                    }
                }
            }
        }
        return best;
    }

    private void writeSeat(int stool) {
        if (tavern.ofStool(stool, Tavern.BAR) == 1) {
            written.add('|');
        }
        int sitter = tavern.ofStool(stool, Tavern.SITTER);
        if (sitter == NONE) {
            written.add('.');
        } else {
            char first = tavern.ofSitter(sitter, Tavern.RANK) == 0 ? 'A' : 'a';
            written.add((char) (first + sitter));
        }
    }

    /** All that changes can change. */
    private static final class Tavern {
        static final int HEIGHT = 0;
        static final int SQUEAK = 1;
        static final int WOBBLE = 2;
        static final int BAR = 3;
        static final int COINS = 4;
        static final int SITTER = 5;
        static final int STOOL_NUMBERS = 6;

        static final int RANK = 0;
        static final int WEIGHT = 1;
        static final int PLACE = 2;
        static final int SITTER_NUMBERS = 3;

        final int[] stoolRow = new int[STOOL_NUMBERS * MOST];
        final int[] sitterRow = new int[SITTER_NUMBERS * MOST];
        int stools = 0;
        int sitters = 0;
        int purse = FIRST_COINS;
        int nights = 0;
        int brawls = 0;
        int brought = 0;

        void copy(Tavern other) {
            System.arraycopy(other.stoolRow, 0, stoolRow, 0, Math.min(other.stoolRow.length, stoolRow.length));
            System.arraycopy(other.sitterRow, 0, sitterRow, 0, Math.min(other.sitterRow.length, sitterRow.length));
            stools = other.stools;
            sitters = other.sitters;
            purse = other.purse;
            nights = other.nights;
            brawls = other.brawls;
            brought = other.brought;
        }

        boolean hasStool(int stool) {
            return stool >= 0 && stool < stools;
        }

        boolean hasSitter(int sitter) {
            return sitter >= 0 && sitter < sitters;
        }

        int ofStool(int stool, int what) {
            if (stool < 0 || stool >= MOST || what < 0 || what >= STOOL_NUMBERS) {
                return NONE;
            }
            return stoolRow[stool * STOOL_NUMBERS + what];
        }

        int ofSitter(int sitter, int what) {
            if (sitter < 0 || sitter >= MOST || what < 0 || what >= SITTER_NUMBERS) {
                return NONE;
            }
            return sitterRow[sitter * SITTER_NUMBERS + what];
        }

        void setOfStool(int stool, int what, int number) {
            if (stool >= 0 && stool < MOST && what >= 0 && what < STOOL_NUMBERS) {
                stoolRow[stool * STOOL_NUMBERS + what] = number;
            }
        }

        void setOfSitter(int sitter, int what, int number) {
            if (sitter >= 0 && sitter < MOST && what >= 0 && what < SITTER_NUMBERS) {
                sitterRow[sitter * SITTER_NUMBERS + what] = number;
            }
        }

        int addStool(int height, int squeak, int wobble, boolean isBar) {
            int stool = stools;
            setOfStool(stool, HEIGHT, height);
            setOfStool(stool, SQUEAK, squeak);
            setOfStool(stool, WOBBLE, wobble);
            setOfStool(stool, BAR, isBar ? 1 : 0);
            setOfStool(stool, COINS, 0);
            setOfStool(stool, SITTER, NONE);
            stools++;
            return stool;
        }

        int addSitter(int rank, int weight) {
            int sitter = sitters;
            setOfSitter(sitter, RANK, rank);
            setOfSitter(sitter, WEIGHT, weight);
            setOfSitter(sitter, PLACE, NONE);
            sitters++;
            return sitter;
        }

        boolean sits(int sitter) {
            return ofSitter(sitter, PLACE) != NONE;
        }

        boolean maySit(int sitter, int stool) {
            return ofSitter(sitter, RANK) > 0 || ofStool(stool, BAR) == 0;
        }

        void take(int sitter, int stool) {
            setOfSitter(sitter, PLACE, stool);
            setOfStool(stool, SITTER, sitter);
        }

        int leave(int sitter) {
            int stool = ofSitter(sitter, PLACE);
            setOfStool(stool, SITTER, NONE);
            setOfSitter(sitter, PLACE, NONE);
            return stool;
        }

        boolean canExchange(int one, int other) {
            return sits(one) && sits(other)
                    && maySit(one, ofSitter(other, PLACE)) && maySit(other, ofSitter(one, PLACE));
        }

        void exchange(int one, int other) {
            int stoolOfOne = ofSitter(one, PLACE);
            take(one, ofSitter(other, PLACE));
            take(other, stoolOfOne);
        }

        boolean areClashing(int one, int other) {
            if (!sits(one) || !sits(other)) {
                return false;
            }
            int ranks = ofSitter(one, RANK) - ofSitter(other, RANK);
            int heights = ofStool(ofSitter(one, PLACE), HEIGHT) - ofStool(ofSitter(other, PLACE), HEIGHT);
            return ranks > 0 && heights < 0 || ranks < 0 && heights > 0;
        }

        int clashesWith(int sitter) {
            int count = 0;
            for (int other = 0; other < sitters; other++) {
                if (areClashing(sitter, other)) {
                    count++;
                }
            }
            return count;
        }

        int clashesByPairs() {
            int count = 0;
            for (int one = 0; one < sitters; one++) {
                for (int other = one + 1; other < sitters; other++) {
                    if (areClashing(one, other)) {
                        count++;
                    }
                }
            }
            return count;
        }

        int clashesByStools() {
            int count = 0;
            for (int stool = 0; stool < stools; stool++) {
                int rank = ofSitter(ofStool(stool, SITTER), RANK);
                for (int lower = 0; lower < rank; lower++) {
                    count += sittersAbove(ofStool(stool, HEIGHT), lower);
                }
            }
            return count;
        }

        private int sittersAbove(int height, int rank) {
            int count = 0;
            for (int stool = 0; stool < stools; stool++) {
                int sitter = ofStool(stool, SITTER);
                if (sitter != NONE && ofSitter(sitter, RANK) == rank && ofStool(stool, HEIGHT) > height) {
                    count++;
                }
            }
            return count;
        }

        /** Seats all from one stool to another anew, as behind a brawl, and answers how many have moved. */
        int seatAnew(int from, int to) {
            for (int stool = from; stool <= to && stool < stools; stool++) {
                setOfStool(stool, SITTER, NONE);
            }
            int moved = 0;
            for (int place = 0; place < sitters; place++) {
                int sitter = rankedAt(place);
                // Those who still wait keep their old stool's number: it tells who has brawled.
                int old = ofSitter(sitter, PLACE);
                if (old >= from && old <= to) {
                    int found = highestFree(sitter, from, to);
                    take(sitter, found);
                    moved += found == old ? 0 : 1;
                }
            }
            return moved;
        }

        private int highestFree(int sitter, int from, int to) {
            int best = NONE;
            for (int stool = from; stool <= to && stool < stools; stool++) {
                if (ofStool(stool, SITTER) == NONE && maySit(sitter, stool)
                        && ofStool(stool, HEIGHT) > ofStool(best, HEIGHT)) {
                    best = stool;
                }
            }
            return best;
        }

        int addCoin(int stool) {
            int wobble = ofStool(stool, WOBBLE) - 1;
            purse--;
            setOfStool(stool, COINS, ofStool(stool, COINS) + 1);
            setOfStool(stool, WOBBLE, wobble);
            return wobble;
        }

        int removeCoin(int stool) {
            int wobble = Math.min(TOP_DIGIT, ofStool(stool, WOBBLE) + 1);
            purse++;
            setOfStool(stool, COINS, ofStool(stool, COINS) - 1);
            setOfStool(stool, WOBBLE, wobble);
            return wobble;
        }

        float tiltAt(int stool) {
            int height = ofStool(stool, HEIGHT);
            return height < 1 ? 0.0f : (float) ofStool(stool, WOBBLE) / (float) height;
        }

        float noiseAt(int stool) {
            int sitter = ofStool(stool, SITTER);
            if (sitter == NONE) {
                return 0.0f;
            }
            float squeaking = (float) ofStool(stool, SQUEAK) * (1.0f + tiltAt(stool));
            return squeaking * (float) ofSitter(sitter, WEIGHT);
        }

        float noiseOfAll() {
            float sum = 0.0f;
            for (int stool = 0; stool < stools; stool++) {
                sum = sum + noiseAt(stool);
            }
            return sum;
        }

        int passNight() {
            int gained = 0;
            for (int stool = 0; stool < stools; stool++) {
                int sitter = ofStool(stool, SITTER);
                if (sitter != NONE) {
                    gained += wearStool(stool, sitter);
                }
            }
            nights++;
            purse += gained;
            brought += gained;
            return gained;
        }

        private int wearStool(int stool, int sitter) {
            int wobble = ofStool(stool, WOBBLE);
            int gained = wobble == 0 && ofSitter(sitter, RANK) > 0 ? 1 : 0;
            if (ofSitter(sitter, WEIGHT) > HEAVY) {
                wobble = Math.min(TOP_DIGIT, wobble + 1);
                setOfStool(stool, WOBBLE, wobble);
            }
            if (wobble > 0) {
                setOfStool(stool, SQUEAK, Math.min(TOP_DIGIT, ofStool(stool, SQUEAK) + 1));
            }
            return gained;
        }

        int tiltedAt(int place) {
            for (int stool = 0; stool < stools; stool++) {
                int ahead = 0;
                for (int other = 0; other < stools; other++) {
                    ahead += isMoreTilted(other, stool) ? 1 : 0;
                }
                if (ahead == place) {
                    return stool;
                }
            }
            return NONE;
        }

        private boolean isMoreTilted(int one, int other) {
            float tiltOfOne = tiltAt(one);
            float tiltOfOther = tiltAt(other);
            return tiltOfOne > tiltOfOther || tiltOfOne == tiltOfOther && one < other;
        }

        int rankedAt(int place) {
            for (int sitter = 0; sitter < sitters; sitter++) {
                int ahead = 0;
                for (int other = 0; other < sitters; other++) {
                    ahead += isAhead(other, sitter) ? 1 : 0;
                }
                if (ahead == place) {
                    return sitter;
                }
            }
            return NONE;
        }

        private boolean isAhead(int one, int other) {
            int ranks = ofSitter(one, RANK) - ofSitter(other, RANK);
            int weights = ofSitter(one, WEIGHT) - ofSitter(other, WEIGHT);
            if (ranks != 0) {
                return ranks > 0;
            }
            return weights != 0 ? weights > 0 : one < other;
        }

        int takenStools(int from, int to) {
            int count = 0;
            for (int stool = from; stool <= to && stool < stools; stool++) {
                count += ofStool(stool, SITTER) == NONE ? 0 : 1;
            }
            return count;
        }

        int sumOfTakenHeights() {
            int sum = 0;
            for (int stool = 0; stool < stools; stool++) {
                sum += ofStool(stool, SITTER) == NONE ? 0 : ofStool(stool, HEIGHT);
            }
            return sum;
        }

        int sumOfStools(int what) {
            int sum = 0;
            for (int stool = 0; stool < stools; stool++) {
                sum += ofStool(stool, what);
            }
            return sum;
        }

        int cats() {
            int count = 0;
            for (int sitter = 0; sitter < sitters; sitter++) {
                count += ofSitter(sitter, RANK) == 0 ? 1 : 0;
            }
            return count;
        }

        boolean stoolsAreWell() {
            for (int stool = 0; stool < stools; stool++) {
                int sitter = ofStool(stool, SITTER);
                if (sitter != NONE && (ofSitter(sitter, PLACE) != stool || !maySit(sitter, stool))) {
                    return false;
                }
            }
            return true;
        }

        boolean sittersAreWell() {
            for (int sitter = 0; sitter < sitters; sitter++) {
                int stool = ofSitter(sitter, PLACE);
                if (stool != NONE && ofStool(stool, SITTER) != sitter) {
                    return false;
                }
            }
            return true;
        }
    }

    /** The states ahead of the latest changes, in a ring. */
    private static final class History {
        static final int MOST_KEPT = 8;
        // One more than are kept, so that preparing a change that then fails costs none of them.
        static final int ROOMS = MOST_KEPT + 1;

        final Tavern[] rooms = new Tavern[ROOMS];
        int next = 0;
        int kept = 0;

        History() {
            for (int room = 0; room < ROOMS; room++) {
                rooms[room] = new Tavern();
            }
        }

        void prepare(Tavern tavern) {
            Tavern room = rooms[Math.floorMod(next, ROOMS)];
            if (room != null) {
                room.copy(tavern);
            }
        }

        void takeBack(Tavern tavern) {
            Tavern room = rooms[Math.floorMod(next, ROOMS)];
            if (room != null) {
                tavern.copy(room);
            }
        }

        void keep() {
            next = (next + 1) % ROOMS;
            kept = Math.min(MOST_KEPT, kept + 1);
        }

        void stepBack(Tavern tavern) {
            next = (next + MOST_KEPT) % ROOMS;
            kept--;
            takeBack(tavern);
        }

        void forget() {
            kept = 0;
        }
    }

    /** The input, and the orders that were read from it. */
    private static final class Text {
        static final int MOST_SIGNS = 60;
        static final int MOST_ORDERS = 30;
        static final int ORDER_NUMBERS = 5;

        final char[] signs = new char[MOST_SIGNS];
        // For each order its letter and up to four numbers.
        final int[] orderRow = new int[MOST_ORDERS * ORDER_NUMBERS];
        int length = 0;
        int at = 0;
        int orders = 0;

        void add(char c) {
            if (length >= 0 && length < MOST_SIGNS) {
                signs[length] = c;
                length++;
            }
        }

        void clear() {
            length = 0;
        }

        int number(int order, int which) {
            if (order < 0 || order >= MOST_ORDERS || which < 0 || which >= ORDER_NUMBERS) {
                return NONE;
            }
            return orderRow[order * ORDER_NUMBERS + which];
        }

        private void setNumber(int which, int number) {
            if (orders >= 0 && orders < MOST_ORDERS && which >= 0 && which < ORDER_NUMBERS) {
                orderRow[orders * ORDER_NUMBERS + which] = number;
            }
        }

        /** Reads all orders and answers the offset of the error, or NONE. */
        int readOrders() {
            at = 0;
            orders = 0;
            for (int order = 0; order < MOST_ORDERS; order++) {
                if (!readOrder()) {
                    return at;
                }
                orders++;
                if (at >= length) {
                    return NONE;
                }
                if (!readSign(';')) {
                    return at;
                }
            }
            return at;
        }

        private boolean readOrder() {
            int letter = sign();
            setNumber(0, letter);
            switch (letter) {
                case 's':
                    return readSign('s') && readNumber(1, 2) && readSign('/') && readNumber(2, 1)
                            && readNumber(3, 1) && readBar();
                case 'g':
                    return readSign('g') && readNumber(1, 1) && readSign('*') && readNumber(2, 3);
                case 'k':
                    return readSign('k') && readNumber(1, 3);
                case 'p':
                    return readSign('p') && readNumber(1, 2) && readSign('>') && readNumber(2, 2);
                case 'u':
                    return readSign('u') && readNumber(1, 2);
                case 'c':
                    return readSign('c') && readNumber(1, 2);
                case 'b':
                    return readSign('b') && readNumber(1, 2) && readSign('-') && readNumber(2, 2);
                case 'n':
                    return readSign('n');
                default:
                    return false;
            }
        }

        private int sign() {
            return at >= 0 && at < length && at < MOST_SIGNS ? signs[at] : NONE;
        }

        private boolean readSign(char wanted) {
            if (sign() != wanted) {
                return false;
            }
            at++;
            return true;
        }

        private boolean readNumber(int which, int mostDigits) {
            int number = 0;
            int digits = 0;
            for (int sign = sign(); digits < mostDigits && sign >= '0' && sign <= '9'; sign = sign()) {
                number = number * 10 + sign - '0';
                digits++;
                at++;
            }
            setNumber(which, number);
            return digits > 0;
        }

        private boolean readBar() {
            setNumber(4, readSign('|') ? 1 : 0);
            return true;
        }
    }

    /** The line that was written last. */
    private static final class Line {
        // More than the coins that 512 calls can bring under one stool, and the signs ahead of them.
        static final int MOST_SIGNS = 600;

        final char[] signs = new char[MOST_SIGNS];
        int length = 0;

        void clear() {
            length = 0;
        }

        void add(char c) {
            if (length >= 0 && length < MOST_SIGNS) {
                signs[length] = c;
                length++;
            }
        }

        void addTimes(char c, int times) {
            for (int i = 0; i < times && i < MOST_SIGNS; i++) {
                add(c);
            }
        }

        /** Adds a number from 0 to 99. */
        void addNumber(int number) {
            if (number > 9) {
                add((char) ('0' + number / 10));
            }
            add((char) ('0' + number % 10));
        }

        char signAt(int index) {
            return index >= 0 && index < MOST_SIGNS ? signs[index] : ' ';
        }
    }

    /** The bits of floats from 0.0f on, told by arithmetic alone, for the library's way is not at hand. */
    private static final class Floats {
        static final int FRACTION_BITS = 23;
        static final int FRACTION = 1 << FRACTION_BITS;
        static final int EXPONENT_OF_ONE = 127;
        static final int LEAST_EXPONENT = 1;
        static final int MOST_EXPONENT = 254;

        private Floats() {
        }

        static int toBits(float value) {
            if (!(value > 0.0f)) {
                return 0;
            }
            double scaled = (double) value;
            int exponent = EXPONENT_OF_ONE;
            while (scaled >= 2.0 && exponent < MOST_EXPONENT) {
                scaled = scaled / 2.0;
                exponent++;
            }
            while (scaled < 1.0 && exponent > LEAST_EXPONENT) {
                scaled = scaled * 2.0;
                exponent--;
            }
            // The smallest floats have no leading one: there the difference is less than 0 and takes the exponent away.
            return exponent * FRACTION + (int) ((scaled - 1.0) * (double) FRACTION);
        }

        static float fromBits(int bits) {
            int exponent = bits >>> FRACTION_BITS;
            double scaled = (double) (bits & (FRACTION - 1)) / (double) FRACTION;
            if (exponent >= LEAST_EXPONENT) {
                scaled = scaled + 1.0;
            } else {
                exponent = LEAST_EXPONENT;
            }
            for (; exponent > EXPONENT_OF_ONE; exponent--) {
                scaled = scaled * 2.0;
            }
            for (; exponent < EXPONENT_OF_ONE; exponent++) {
                scaled = scaled / 2.0;
            }
            return (float) scaled;
        }
    }
}
