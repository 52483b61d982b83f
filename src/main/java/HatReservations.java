import java.util.NoSuchElementException;

/** A manager of chairs in a hall that guests reserve with their hats, claim with their coats, and contest with their feathers. */
public final class HatReservations {

    private static final int MOST_GUESTS = 8;
    private static final int MOST_FEATHERS = 9;
    private static final int WIDEST_BRIM = 2;
    private static final int ROWS = 4;
    private static final int COLUMNS = 10;
    private static final int CHAIRS = 40;
    private static final long ROW_MASK = 1023L;
    private static final int MOST_COATS = 3;
    private static final int MOST_MINUTES = 60;
    private static final int LONGEST_LIMIT = 240;
    private static final int MOST_UNDOS = 8;
    private static final int MOST_CHARACTERS = 60;
    private static final int FIRST_CHARACTER = 32;
    private static final int LAST_CHARACTER = 126;
    /** No command has less than 6 characters, so a text of 60 holds fewer than this many. */
    private static final int MOST_COMMANDS = 10;
    /** Stands where there is no guest, no chair, no number and no position. */
    private static final int NONE = -1;
    private static final Command[] COMMANDS = Command.values();

    private final Hall hall = new Hall();
    private final Hall snapshot = new Hall();
    private final History history = new History();
    private final CommandText commandText = new CommandText();
    private final char[] line = new char[COLUMNS];
    private int lineLength = 0;
    private boolean hasSnapshot = false;
    private int lastErrorPosition = NONE;
    private int lastFailedCommand = NONE;
    private int lastFailedException = NONE;

    public HatReservations() {
    }

    // ---- guests and hats

    public int addGuest(int feathers, int brim) throws IllegalArgumentException, IllegalStateException {
        int refusal = hall.refusalOfGuest(feathers, brim);
        if (refusal == 1) {
            throw new IllegalArgumentException("the number of feathers or the brim is out of range");
        }
        if (refusal != 0) {
            throw new IllegalStateException("there are 8 guests");
        }
        history.remember(hall);
        return hall.welcome(feathers, brim);
    }

    public int giveFeather(int guest) throws IndexOutOfBoundsException, IllegalStateException {
        int refusal = hall.refusalOfFeather(guest);
        if (refusal == 1) {
            throw new IndexOutOfBoundsException("no such guest");
        }
        if (refusal != 0) {
            throw new IllegalStateException("the guest has 9 feathers");
        }
        history.remember(hall);
        return hall.gainFeather(guest);
    }

    public int placeHat(int guest, int chair)
            throws IndexOutOfBoundsException, IllegalStateException, UnsupportedOperationException {
        int refusal = hall.refusalOfHat(guest, chair);
        if (refusal == 1) {
            throw new IndexOutOfBoundsException("no such guest or chair");
        }
        if (refusal == 2) {
            throw new IllegalStateException("the hat of the guest is placed");
        }
        if (refusal != 0) {
            throw new UnsupportedOperationException("the chair is covered");
        }
        history.remember(hall);
        return hall.putHat(guest, chair);
    }

    public int removeHat(int guest) throws IndexOutOfBoundsException, NoSuchElementException {
        requirePlacedHat(guest);
        history.remember(hall);
        return hall.giveChairsBack(guest);
    }

    public int touchHat(int guest) throws IndexOutOfBoundsException, NoSuchElementException {
        requirePlacedHat(guest);
        history.remember(hall);
        return hall.startIdleTimeAgain(guest);
    }

    public int guestCount() {
        return hall.guests;
    }

    public int feathers(int guest) throws IndexOutOfBoundsException {
        requireGuest(guest);
        return hall.feathers[guest];
    }

    public int brim(int guest) throws IndexOutOfBoundsException {
        requireGuest(guest);
        return hall.brims[guest];
    }

    public boolean isPlaced(int guest) throws IndexOutOfBoundsException {
        requireGuest(guest);
        return hall.hatIsPlaced(guest);
    }

    public int hatChair(int guest) throws IndexOutOfBoundsException, NoSuchElementException {
        requirePlacedHat(guest);
        return hall.hatChairs[guest];
    }

    public int coverSize(int guest) throws IndexOutOfBoundsException {
        requireGuest(guest);
        return hall.coverOf(guest);
    }

    public int idleMinutes(int guest) throws IndexOutOfBoundsException, NoSuchElementException {
        requirePlacedHat(guest);
        return hall.idleTime(guest);
    }

    // ---- coats

    public int leaveCoat(int guest, int chair)
            throws IndexOutOfBoundsException, IllegalStateException, UnsupportedOperationException {
        int refusal = hall.refusalOfCoat(guest, chair);
        if (refusal == 1) {
            throw new IndexOutOfBoundsException("no such guest or chair");
        }
        if (refusal == 2) {
            throw new IllegalStateException("the coat of the guest is left on a chair");
        }
        if (refusal != 0) {
            throw new UnsupportedOperationException("the chair takes no coat of this guest");
        }
        history.remember(hall);
        return hall.putCoat(guest, chair);
    }

    public int takeCoat(int guest) throws IndexOutOfBoundsException, NoSuchElementException {
        requireLeftCoat(guest);
        history.remember(hall);
        return hall.pullCoat(guest);
    }

    public boolean hasCoatLeft(int guest) throws IndexOutOfBoundsException {
        requireGuest(guest);
        return hall.coatChairs[guest] != NONE;
    }

    public int coatChair(int guest) throws IndexOutOfBoundsException, NoSuchElementException {
        requireLeftCoat(guest);
        return hall.coatChairs[guest];
    }

    public int coatCount(int chair) throws IndexOutOfBoundsException {
        requireChair(chair);
        return hall.coatsOn(chair);
    }

    public int coatOwner(int chair, int position) throws IndexOutOfBoundsException, NoSuchElementException {
        requireChair(chair);
        int owner = hall.ownerAt(chair, position);
        if (owner == NONE) {
            throw new NoSuchElementException("no such position");
        }
        return owner;
    }

    public int nextClaimant(int chair) throws IndexOutOfBoundsException, NoSuchElementException {
        requireChair(chair);
        int claimant = hall.claimantByQueue(chair);
        if (claimant == NONE) {
            throw new NoSuchElementException("no guest would get the chair");
        }
        return claimant;
    }

    public int nextClaimantByTime(int chair) throws IndexOutOfBoundsException, NoSuchElementException {
        requireChair(chair);
        int claimant = hall.claimantByOrder(chair);
        if (claimant == NONE) {
            throw new NoSuchElementException("no guest would get the chair");
        }
        return claimant;
    }

    // ---- contests

    public boolean contest(int guest, int chair)
            throws IndexOutOfBoundsException, NoSuchElementException, IllegalStateException {
        int refusal = hall.refusalOfContest(guest, chair);
        if (refusal == 1) {
            throw new IndexOutOfBoundsException("no such guest or chair");
        }
        if (refusal == 2) {
            throw new NoSuchElementException("the chair is not covered");
        }
        if (refusal != 0) {
            throw new IllegalStateException("the hat of the guest is placed");
        }
        history.remember(hall);
        return hall.fightFor(guest, chair);
    }

    public boolean wouldWin(int guest, int chair) throws IndexOutOfBoundsException {
        int refusal = hall.refusalOfContest(guest, chair);
        if (refusal == 1) {
            throw new IndexOutOfBoundsException("no such guest or chair");
        }
        return refusal == 0 && hall.isStronger(guest, hall.covererAt(chair));
    }

    // ---- time and sweeping

    public int pass(int minutes) throws IllegalArgumentException {
        if (hall.refusalOfPass(minutes) != 0) {
            throw new IllegalArgumentException("the number is not from 1 to 60");
        }
        history.remember(hall);
        return hall.letPass(minutes);
    }

    public int sweep(int limit) throws IllegalArgumentException {
        if (hall.refusalOfSweep(limit) != 0) {
            throw new IllegalArgumentException("the number is not from 1 to 240");
        }
        history.remember(hall);
        return hall.sweepHats(limit);
    }

    public int now() {
        return hall.time;
    }

    public int idlestGuest() throws NoSuchElementException {
        int idlest = hall.idlest();
        if (idlest == NONE) {
            throw new NoSuchElementException("no hat is placed");
        }
        return idlest;
    }

    // ---- chairs

    public boolean isCovered(int chair) throws IndexOutOfBoundsException {
        requireChair(chair);
        return hall.covererAt(chair) != NONE;
    }

    public int covererOf(int chair) throws IndexOutOfBoundsException, NoSuchElementException {
        requireChair(chair);
        int coverer = hall.covererAt(chair);
        if (coverer == NONE) {
            throw new NoSuchElementException("the chair is not covered");
        }
        return coverer;
    }

    public long coveredMask() {
        return hall.coveredChairs();
    }

    public int coveredCount() {
        return hall.countByChair();
    }

    public int coveredCountByHat() {
        return hall.countByHat();
    }

    public int longestFreeRun(int row) throws IndexOutOfBoundsException {
        requireRow(row);
        return hall.freeRunByScan(row);
    }

    public int longestFreeRunByMask(int row) throws IndexOutOfBoundsException {
        requireRow(row);
        return hall.freeRunByShift(row);
    }

    public int guestAtRank(int rank) throws NoSuchElementException {
        int guest = hall.guestBehind(rank);
        if (guest == NONE) {
            throw new NoSuchElementException("no such rank");
        }
        return guest;
    }

    // ---- totals

    public int sweptTotal() {
        return hall.swept;
    }

    public int lapsedTotal() {
        return hall.lapsed;
    }

    public int offersTaken() {
        return hall.taken;
    }

    public int contestsWon() {
        return hall.won;
    }

    // ---- commands

    public int append(char character) throws IllegalArgumentException, IllegalStateException {
        if (character < FIRST_CHARACTER || character > LAST_CHARACTER) {
            throw new IllegalArgumentException("the code of the character is not from 32 to 126");
        }
        if (commandText.isFull()) {
            throw new IllegalStateException("the command text has 60 characters");
        }
        return commandText.add(character);
    }

    public int run() throws IllegalArgumentException, IllegalStateException {
        boolean isCommandText = commandText.read();
        commandText.empty();
        if (!isCommandText) {
            lastErrorPosition = commandText.position;
            throw new IllegalArgumentException("the text is not a command text");
        }
        history.prepare(hall);
        for (int index = 0; index < MOST_COMMANDS && index < commandText.commandCount; index++) {
            Command command = commandText.commands[index];
            int first = commandText.firsts[index];
            int second = commandText.seconds[index];
            int refusal = command.refusalIn(hall, first, second);
            if (refusal != 0) {
                history.takeBack(hall);
                lastFailedCommand = index;
                lastFailedException = refusal;
                throw new IllegalStateException("a command fails");
            }
            command.carryOutIn(hall, first, second);
        }
        history.keep();
        return commandText.commandCount;
    }

    public int errorPosition() throws NoSuchElementException {
        if (lastErrorPosition == NONE) {
            throw new NoSuchElementException("no error position was set");
        }
        return lastErrorPosition;
    }

    public int failedCommand() throws NoSuchElementException {
        if (lastFailedCommand == NONE) {
            throw new NoSuchElementException("no command has failed");
        }
        return lastFailedCommand;
    }

    public int failedException() throws NoSuchElementException {
        if (lastFailedException == NONE) {
            throw new NoSuchElementException("no command has failed");
        }
        return lastFailedException;
    }

    // ---- line, statistics, undo, snapshot

    public int describeRow(int row) throws IndexOutOfBoundsException {
        requireRow(row);
        for (int column = 0; column < COLUMNS; column++) {
            line[column] = hall.signOf(row * COLUMNS + column);
        }
        lineLength = COLUMNS;
        return lineLength;
    }

    public char lineAt(int index) throws IndexOutOfBoundsException {
        if (index < 0 || index >= lineLength) {
            throw new IndexOutOfBoundsException("no such index");
        }
        return line[index];
    }

    public double meanCover() throws ArithmeticException {
        int placed = hall.countPlaced();
        if (placed == 0) {
            throw new ArithmeticException("no hat is placed");
        }
        return (double) hall.countByChair() / (double) placed;
    }

    public float coveredShare() {
        return (float) hall.countByChair() / (float) CHAIRS;
    }

    public boolean isConsistent() {
        return hall.countByChair() == hall.countByHat() && hall.rowsAgree() && hall.chairsAgree();
    }

    public int undo() throws IllegalStateException {
        if (history.count == 0) {
            throw new IllegalStateException("there is no change to undo");
        }
        return history.stepBack(hall);
    }

    public int save() {
        snapshot.become(hall);
        hasSnapshot = true;
        return hall.countPlaced();
    }

    public int restore() throws IllegalStateException {
        if (!hasSnapshot) {
            throw new IllegalStateException("there is no snapshot");
        }
        hall.become(snapshot);
        history.forget();
        return hall.countPlaced();
    }

    private void requireGuest(int guest) {
        if (!hall.hasGuest(guest)) {
            throw new IndexOutOfBoundsException("no such guest");
        }
    }

    private void requirePlacedHat(int guest) {
        int refusal = hall.refusalWithoutHat(guest);
        if (refusal == 1) {
            throw new IndexOutOfBoundsException("no such guest");
        }
        if (refusal != 0) {
            throw new NoSuchElementException("the hat of the guest is not placed");
        }
    }

    private void requireLeftCoat(int guest) {
        int refusal = hall.refusalWithoutCoat(guest);
        if (refusal == 1) {
            throw new IndexOutOfBoundsException("no such guest");
        }
        if (refusal != 0) {
            throw new NoSuchElementException("the coat of the guest is not left on a chair");
        }
    }

    private static void requireChair(int chair) {
        if (!Hall.hasChair(chair)) {
            throw new IndexOutOfBoundsException("no such chair");
        }
    }

    private static void requireRow(int row) {
        if (row < 0 || row >= ROWS) {
            throw new IndexOutOfBoundsException("no such row");
        }
    }

    /**
     * Everything that changes can change, so that undo and the snapshot are copies of one object.
     * A refusal is 0 where a call may go on, else the position in the throws list of its method.
     */
    private static final class Hall {
        final int[] feathers = new int[MOST_GUESTS];
        final int[] brims = new int[MOST_GUESTS];
        final int[] hatChairs = new int[MOST_GUESTS];
        final int[] touchTimes = new int[MOST_GUESTS];
        /** The chairs that each hat covers, as a bit mask. */
        final long[] covers = new long[MOST_GUESTS];
        final int[] coatChairs = new int[MOST_GUESTS];
        final int[] coatPositions = new int[MOST_GUESTS];
        /** Several coats can be left in one minute, so the times of coats are counted in coats. */
        final int[] coatOrders = new int[MOST_GUESTS];
        int coatsEverLeft = 0;
        int guests = 0;
        int time = 0;
        int swept = 0;
        int lapsed = 0;
        int taken = 0;
        int won = 0;

        Hall() {
            for (int guest = 0; guest < MOST_GUESTS; guest++) {
                hatChairs[guest] = NONE;
                coatChairs[guest] = NONE;
            }
        }

        void become(Hall other) {
            System.arraycopy(other.feathers, 0, feathers, 0, MOST_GUESTS);
            System.arraycopy(other.brims, 0, brims, 0, MOST_GUESTS);
            System.arraycopy(other.hatChairs, 0, hatChairs, 0, MOST_GUESTS);
            System.arraycopy(other.touchTimes, 0, touchTimes, 0, MOST_GUESTS);
            System.arraycopy(other.covers, 0, covers, 0, MOST_GUESTS);
            System.arraycopy(other.coatChairs, 0, coatChairs, 0, MOST_GUESTS);
            System.arraycopy(other.coatPositions, 0, coatPositions, 0, MOST_GUESTS);
            System.arraycopy(other.coatOrders, 0, coatOrders, 0, MOST_GUESTS);
            coatsEverLeft = other.coatsEverLeft;
            guests = other.guests;
            time = other.time;
            swept = other.swept;
            lapsed = other.lapsed;
            taken = other.taken;
            won = other.won;
        }

        boolean hasGuest(int guest) {
            return guest >= 0 && guest < guests;
        }

        static boolean hasChair(int chair) {
            return chair >= 0 && chair < CHAIRS;
        }

        // ---- refusals

        int refusalOfGuest(int featherCount, int brim) {
            if (featherCount < 0 || featherCount > MOST_FEATHERS || brim < 0 || brim > WIDEST_BRIM) {
                return 1;
            }
            return guests >= MOST_GUESTS ? 2 : 0;
        }

        int refusalOfFeather(int guest) {
            if (!hasGuest(guest)) {
                return 1;
            }
            return feathers[guest] >= MOST_FEATHERS ? 2 : 0;
        }

        int refusalOfHat(int guest, int chair) {
            if (!hasGuest(guest) || !hasChair(chair)) {
                return 1;
            }
            if (hatIsPlaced(guest)) {
                return 2;
            }
            return covererAt(chair) != NONE ? 3 : 0;
        }

        int refusalWithoutHat(int guest) {
            if (!hasGuest(guest)) {
                return 1;
            }
            return hatIsPlaced(guest) ? 0 : 2;
        }

        int refusalOfCoat(int guest, int chair) {
            if (!hasGuest(guest) || !hasChair(chair)) {
                return 1;
            }
            if (coatChairs[guest] != NONE) {
                return 2;
            }
            int coverer = covererAt(chair);
            boolean isClaimable = coverer != NONE && coverer != guest;
            return isClaimable && coatsOn(chair) < MOST_COATS ? 0 : 3;
        }

        int refusalWithoutCoat(int guest) {
            if (!hasGuest(guest)) {
                return 1;
            }
            return coatChairs[guest] == NONE ? 2 : 0;
        }

        int refusalOfContest(int guest, int chair) {
            if (!hasGuest(guest) || !hasChair(chair)) {
                return 1;
            }
            if (covererAt(chair) == NONE) {
                return 2;
            }
            return hatIsPlaced(guest) ? 3 : 0;
        }

        int refusalOfPass(int minutes) {
            return minutes < 1 || minutes > MOST_MINUTES ? 1 : 0;
        }

        int refusalOfSweep(int limit) {
            return limit < 1 || limit > LONGEST_LIMIT ? 1 : 0;
        }

        // ---- guests and hats

        int welcome(int featherCount, int brim) {
            int guest = guests;
            feathers[guest] = featherCount;
            brims[guest] = brim;
            guests++;
            return guest;
        }

        int gainFeather(int guest) {
            feathers[guest]++;
            return feathers[guest];
        }

        boolean hatIsPlaced(int guest) {
            return hatChairs[guest] != NONE;
        }

        int coverOf(int guest) {
            return Long.bitCount(covers[guest]);
        }

        int idleTime(int guest) {
            return time - touchTimes[guest];
        }

        int startIdleTimeAgain(int guest) {
            int idle = idleTime(guest);
            touchTimes[guest] = time;
            return idle;
        }

        int putHat(int guest, int chair) {
            long covered = coveredChairs();
            hatChairs[guest] = chair;
            touchTimes[guest] = time;
            covers[guest] = 1L << chair | reach(chair, -1, brims[guest], covered)
                    | reach(chair, 1, brims[guest], covered);
            return Long.bitCount(covers[guest]);
        }

        /** The chairs that a brim covers on one side of its chair. */
        private static long reach(int chair, int direction, int brim, long covered) {
            long reached = 0;
            int column = chair % COLUMNS;
            for (int step = 1; step <= brim; step++) {
                int nextColumn = column + step * direction;
                if (nextColumn < 0 || nextColumn >= COLUMNS) {
                    return reached;
                }
                long next = 1L << (chair + step * direction);
                if ((covered & next) != 0) {
                    return reached;
                }
                reached |= next;
            }
            return reached;
        }

        /** Answers the chairs that the hat covered. */
        private long liftHat(int guest) {
            long uncovered = covers[guest];
            covers[guest] = 0;
            hatChairs[guest] = NONE;
            return uncovered;
        }

        int giveChairsBack(int guest) {
            long uncovered = liftHat(guest);
            offerChairs(uncovered);
            return Long.bitCount(uncovered);
        }

        // ---- coats and offers

        int putCoat(int guest, int chair) {
            int position = coatsOn(chair);
            coatsEverLeft++;
            coatOrders[guest] = coatsEverLeft;
            coatPositions[guest] = position;
            coatChairs[guest] = chair;
            return position;
        }

        /** Answers the chair on which the coat was. */
        int pullCoat(int guest) {
            int chair = coatChairs[guest];
            coatChairs[guest] = NONE;
            for (int other = 0; other < MOST_GUESTS; other++) {
                if (coatChairs[other] == chair && coatPositions[other] > coatPositions[guest]) {
                    coatPositions[other]--;
                }
            }
            return chair;
        }

        int coatsOn(int chair) {
            int count = 0;
            for (int guest = 0; guest < MOST_GUESTS; guest++) {
                if (coatChairs[guest] == chair) {
                    count++;
                }
            }
            return count;
        }

        int ownerAt(int chair, int position) {
            for (int guest = 0; guest < MOST_GUESTS; guest++) {
                if (coatChairs[guest] == chair && coatPositions[guest] == position) {
                    return guest;
                }
            }
            return NONE;
        }

        int claimantByQueue(int chair) {
            for (int position = 0; position < MOST_COATS; position++) {
                int owner = ownerAt(chair, position);
                if (owner != NONE && !hatIsPlaced(owner)) {
                    return owner;
                }
            }
            return NONE;
        }

        int claimantByOrder(int chair) {
            int first = NONE;
            for (int guest = 0; guest < MOST_GUESTS; guest++) {
                boolean claims = coatChairs[guest] == chair && !hatIsPlaced(guest);
                if (claims && (first == NONE || coatOrders[guest] < coatOrders[first])) {
                    first = guest;
                }
            }
            return first;
        }

        private void offerChairs(long chairs) {
            for (int chair = 0; chair < CHAIRS; chair++) {
                if ((chairs >>> chair & 1L) != 0 && covererAt(chair) == NONE) {
                    offerChair(chair);
                }
            }
        }

        private void offerChair(int chair) {
            for (int coat = 0; coat < MOST_COATS; coat++) {
                int owner = ownerAt(chair, 0);
                if (owner == NONE) {
                    return;
                }
                pullCoat(owner);
                if (!hatIsPlaced(owner)) {
                    putHat(owner, chair);
                    taken++;
                    return;
                }
                lapsed++;
            }
        }

        // ---- contests

        boolean isStronger(int guest, int defender) {
            return defender != NONE && feathers[guest] > feathers[defender];
        }

        boolean fightFor(int guest, int chair) {
            int defender = covererAt(chair);
            if (!isStronger(guest, defender)) {
                feathers[guest] = Math.max(0, feathers[guest] - 1);
                return false;
            }
            feathers[guest] -= feathers[defender];
            long uncovered = loseChair(defender, chair);
            putHat(guest, chair);
            won++;
            offerChairs(uncovered);
            return true;
        }

        /** Answers the chairs that the hat of the defender covers no more. */
        private long loseChair(int defender, int chair) {
            int hatChair = hatChairs[defender];
            if (hatChair == chair) {
                return liftHat(defender);
            }
            long bit = 1L << chair;
            long lower = bit - 1;
            long beyond = chair < hatChair ? lower | bit : ~lower;
            long uncovered = covers[defender] & beyond;
            covers[defender] &= ~beyond;
            return uncovered;
        }

        // ---- time and sweeping

        int letPass(int minutes) {
            time += minutes;
            return time;
        }

        int sweepHats(int limit) {
            long uncovered = 0;
            int removed = 0;
            for (int guest = 0; guest < MOST_GUESTS; guest++) {
                if (hatIsPlaced(guest) && idleTime(guest) >= limit) {
                    uncovered |= liftHat(guest);
                    removed++;
                }
            }
            swept += removed;
            offerChairs(uncovered);
            return removed;
        }

        int idlest() {
            int idlest = NONE;
            for (int guest = 0; guest < MOST_GUESTS; guest++) {
                if (hatIsPlaced(guest) && (idlest == NONE || idleTime(guest) > idleTime(idlest))) {
                    idlest = guest;
                }
            }
            return idlest;
        }

        // ---- chairs

        int covererAt(int chair) {
            for (int guest = 0; guest < MOST_GUESTS; guest++) {
                if ((covers[guest] >>> chair & 1L) != 0) {
                    return guest;
                }
            }
            return NONE;
        }

        long coveredChairs() {
            long covered = 0;
            for (int guest = 0; guest < MOST_GUESTS; guest++) {
                covered |= covers[guest];
            }
            return covered;
        }

        int countByChair() {
            int count = 0;
            for (int chair = 0; chair < CHAIRS; chair++) {
                if (covererAt(chair) != NONE) {
                    count++;
                }
            }
            return count;
        }

        int countByHat() {
            int count = 0;
            for (int guest = 0; guest < MOST_GUESTS; guest++) {
                count += coverOf(guest);
            }
            return count;
        }

        int countPlaced() {
            int count = 0;
            for (int guest = 0; guest < MOST_GUESTS; guest++) {
                if (hatIsPlaced(guest)) {
                    count++;
                }
            }
            return count;
        }

        int freeRunByScan(int row) {
            int longest = 0;
            int length = 0;
            for (int column = 0; column < COLUMNS; column++) {
                length = covererAt(row * COLUMNS + column) == NONE ? length + 1 : 0;
                longest = Math.max(longest, length);
            }
            return longest;
        }

        /** Each shift shortens every run by one chair, so the longest run is the number of shifts. */
        int freeRunByShift(int row) {
            long free = ~(coveredChairs() >>> (row * COLUMNS)) & ROW_MASK;
            int length = 0;
            for (int shift = 0; shift < COLUMNS && free != 0; shift++) {
                free &= free << 1;
                length++;
            }
            return length;
        }

        /** The guest whom exactly so many guests precede. */
        int guestBehind(int rank) {
            for (int guest = 0; guest < MOST_GUESTS && guest < guests; guest++) {
                if (countBefore(guest) == rank) {
                    return guest;
                }
            }
            return NONE;
        }

        private int countBefore(int guest) {
            int count = 0;
            for (int other = 0; other < MOST_GUESTS && other < guests; other++) {
                if (precedes(other, guest)) {
                    count++;
                }
            }
            return count;
        }

        private boolean precedes(int other, int guest) {
            if (coverOf(other) != coverOf(guest)) {
                return coverOf(other) > coverOf(guest);
            }
            if (feathers[other] != feathers[guest]) {
                return feathers[other] > feathers[guest];
            }
            return other < guest;
        }

        char signOf(int chair) {
            int coverer = covererAt(chair);
            if (coverer == NONE) {
                return '.';
            }
            return (char) (hatChairs[coverer] == chair ? 'A' + coverer : 'a' + coverer);
        }

        // ---- invariants

        boolean rowsAgree() {
            for (int row = 0; row < ROWS; row++) {
                if (freeRunByScan(row) != freeRunByShift(row)) {
                    return false;
                }
            }
            return true;
        }

        boolean chairsAgree() {
            for (int chair = 0; chair < CHAIRS; chair++) {
                boolean strayCoat = covererAt(chair) == NONE && coatsOn(chair) > 0;
                if (strayCoat || claimantByQueue(chair) != claimantByOrder(chair)) {
                    return false;
                }
            }
            return true;
        }
    }

    /** The halls as they were before the latest changes, in a ring with one spare place. */
    private static final class History {
        /** The spare place keeps a run that fails from costing the oldest change. */
        private static final int PLACES = MOST_UNDOS + 1;

        private final Hall[] halls = new Hall[PLACES];
        private int spare = 0;
        int count = 0;

        History() {
            for (int place = 0; place < PLACES; place++) {
                halls[place] = new Hall();
            }
        }

        void remember(Hall hall) {
            prepare(hall);
            keep();
        }

        void prepare(Hall hall) {
            halls[spare].become(hall);
        }

        void keep() {
            spare = spare + 1 < PLACES ? spare + 1 : 0;
            count = Math.min(count + 1, MOST_UNDOS);
        }

        void takeBack(Hall hall) {
            hall.become(halls[spare]);
        }

        /** Answers how many changes can still be undone. */
        int stepBack(Hall hall) {
            spare = spare > 0 ? spare - 1 : PLACES - 1;
            hall.become(halls[spare]);
            count--;
            return count;
        }

        void forget() {
            count = 0;
        }
    }

    /** The commands of a command text, with the most digits that each of their numbers has. */
    private enum Command {
        GUEST("guest ", 1, false, 1),
        HAT("hat ", 1, true, 3),
        LIFT("lift ", 1, false, 0),
        TOUCH("touch ", 1, false, 0),
        COAT("coat ", 1, true, 3),
        FETCH("fetch ", 1, false, 0),
        CONTEST("contest ", 1, true, 3),
        PASS("pass ", 3, false, 0),
        SWEEP("sweep ", 3, false, 0),
        FEATHER("feather ", 1, false, 0);

        final String keyword;
        final int firstDigits;
        final boolean isSpaced;
        final int secondDigits;

        Command(String keyword, int firstDigits, boolean isSpaced, int secondDigits) {
            this.keyword = keyword;
            this.firstDigits = firstDigits;
            this.isSpaced = isSpaced;
            this.secondDigits = secondDigits;
        }

        int refusalIn(Hall hall, int first, int second) {
            switch (this) {
                case GUEST:
                    return hall.refusalOfGuest(first, second);
                case HAT:
                    return hall.refusalOfHat(first, second);
                case LIFT:
                case TOUCH:
                    return hall.refusalWithoutHat(first);
                case COAT:
                    return hall.refusalOfCoat(first, second);
                case FETCH:
                    return hall.refusalWithoutCoat(first);
                case CONTEST:
                    return hall.refusalOfContest(first, second);
                case PASS:
                    return hall.refusalOfPass(first);
                case SWEEP:
                    return hall.refusalOfSweep(first);
                default:
                    return hall.refusalOfFeather(first);
            }
        }

        void carryOutIn(Hall hall, int first, int second) {
            switch (this) {
                case GUEST:
                    hall.welcome(first, second);
                    break;
                case HAT:
                    hall.putHat(first, second);
                    break;
                case LIFT:
                    hall.giveChairsBack(first);
                    break;
                case TOUCH:
                    hall.startIdleTimeAgain(first);
                    break;
                case COAT:
                    hall.putCoat(first, second);
                    break;
                case FETCH:
                    hall.pullCoat(first);
                    break;
                case CONTEST:
                    hall.fightFor(first, second);
                    break;
                case PASS:
                    hall.letPass(first);
                    break;
                case SWEEP:
                    hall.sweepHats(first);
                    break;
                default:
                    hall.gainFeather(first);
                    break;
            }
        }
    }

    /** The buffer of characters, and what the latest reading of it found. */
    private static final class CommandText {
        private final char[] characters = new char[MOST_CHARACTERS];
        private int length = 0;
        /** Holds some command at each place from the start, so that no place is ever null. */
        final Command[] commands = new Command[MOST_COMMANDS];
        final int[] firsts = new int[MOST_COMMANDS];
        final int[] seconds = new int[MOST_COMMANDS];
        int commandCount = 0;
        /** Where the reading stands; the error position, when it has found an error. */
        int position = 0;

        CommandText() {
            for (int index = 0; index < MOST_COMMANDS; index++) {
                commands[index] = Command.GUEST;
            }
        }

        boolean isFull() {
            return length >= MOST_CHARACTERS;
        }

        int add(char character) {
            characters[length] = character;
            length++;
            return length;
        }

        void empty() {
            length = 0;
        }

        /** Answers whether the characters are a command text. */
        boolean read() {
            position = 0;
            commandCount = 0;
            for (int index = 0; index < MOST_COMMANDS; index++) {
                if (!readCommand(index)) {
                    return false;
                }
                commandCount++;
                if (position == length) {
                    return true;
                }
                if (!readSign(';')) {
                    return false;
                }
            }
            return false;
        }

        private boolean readCommand(int index) {
            Command command = readKeyword();
            if (command == null) {
                return false;
            }
            int first = readNumber(command.firstDigits);
            if (first == NONE || command.isSpaced && !readSign(' ')) {
                return false;
            }
            int second = command.secondDigits == 0 ? 0 : readNumber(command.secondDigits);
            if (second == NONE) {
                return false;
            }
            commands[index] = command;
            firsts[index] = first;
            seconds[index] = second;
            return true;
        }

        /** Answers null, with the position behind what some keyword begins with, if no keyword stands here. */
        private Command readKeyword() {
            int start = position;
            for (int index = 0; index < COMMANDS.length; index++) {
                Command command = COMMANDS[index];
                int matched = countMatched(command.keyword, start);
                position = Math.max(position, start + matched);
                if (matched == command.keyword.length()) {
                    return command;
                }
            }
            return null;
        }

        private int countMatched(String keyword, int start) {
            int matched = 0;
            for (int index = 0; index < keyword.length(); index++) {
                int place = start + index;
                if (place >= length || characters[place] != keyword.charAt(index)) {
                    return matched;
                }
                matched++;
            }
            return matched;
        }

        /** Answers NONE if no digit stands here. */
        private int readNumber(int mostDigits) {
            int number = NONE;
            for (int digits = 0; digits < mostDigits && standsOnDigit(); digits++) {
                number = (digits == 0 ? 0 : number * 10) + (characters[position] - '0');
                position++;
            }
            return number;
        }

        private boolean standsOnDigit() {
            return position < length && characters[position] >= '0' && characters[position] <= '9';
        }

        private boolean readSign(char sign) {
            if (position >= length || characters[position] != sign) {
                return false;
            }
            position++;
            return true;
        }
    }
}
