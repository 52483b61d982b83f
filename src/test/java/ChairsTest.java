import java.util.NoSuchElementException;

/** Promises 28 to 39: chairs and totals. */
public final class ChairsTest {
    private static final Class<?> BOUNDS = IndexOutOfBoundsException.class;
    private static final Class<?> MISSING = NoSuchElementException.class;

    private final Checks checks = new Checks();

    public static void main(String[] args) {
        ChairsTest test = new ChairsTest();
        test.covers();
        test.counts();
        test.freeRuns();
        test.ranks();
        test.totals();
        test.checks.close("ChairsTest");
    }

    private void covers() {
        HatReservations hall = Halls.with(0, 1, 0, 0);
        hall.placeHat(0, 39);
        hall.placeHat(1, 0);
        checks.promise(28, "isCovered");
        checks.due(true, () -> hall.isCovered(0));
        checks.due(false, () -> hall.isCovered(1));
        checks.due(false, () -> hall.isCovered(37));
        checks.due(true, () -> hall.isCovered(38));
        checks.due(true, () -> hall.isCovered(39));
        checks.due(BOUNDS, () -> hall.isCovered(40));
        checks.due(BOUNDS, () -> hall.isCovered(-1));
        checks.due(BOUNDS, () -> hall.isCovered(64));
        checks.promise(29, "covererOf");
        checks.due(1, () -> hall.covererOf(0));
        checks.due(0, () -> hall.covererOf(38));
        checks.due(0, () -> hall.covererOf(39));
        checks.due(MISSING, () -> hall.covererOf(1));
        checks.due(BOUNDS, () -> hall.covererOf(40));
        checks.due(BOUNDS, () -> hall.covererOf(-1));
        checks.promise(30, "coveredMask");
        checks.due(1L | 1L << 38 | 1L << 39, () -> hall.coveredMask());
    }

    private void bothCounts(HatReservations hall, int want) {
        checks.promise(31, "coveredCount");
        checks.due(want, () -> hall.coveredCount());
        checks.promise(32, "coveredCountByHat");
        checks.due(want, () -> hall.coveredCountByHat());
    }

    private void counts() {
        HatReservations hall = Halls.with(0, 2, 0, 2, 0, 2, 0, 2, 0, 2, 0, 2, 0, 2, 0, 2);
        bothCounts(hall, 0);
        int[] chairs = {2, 7, 12, 17, 22, 27, 32, 37};
        for (int guest = 0; guest < 8; guest++) {
            hall.placeHat(guest, chairs[guest]);
            bothCounts(hall, 5 * guest + 5);
        }
        checks.promise(30, "coveredMask");
        checks.due((1L << 40) - 1, () -> hall.coveredMask());
        bothRuns(hall, 3, 0);
        hall.removeHat(7);
        bothCounts(hall, 35);
        checks.promise(30, "coveredMask");
        checks.due((1L << 35) - 1, () -> hall.coveredMask());
    }

    private void bothRuns(HatReservations hall, int row, Object want) {
        checks.promise(33, "longestFreeRun");
        checks.due(want, () -> hall.longestFreeRun(row));
        checks.promise(34, "longestFreeRunByMask");
        checks.due(want, () -> hall.longestFreeRunByMask(row));
    }

    private void freeRuns() {
        HatReservations hall = Halls.with(0, 0, 0, 0, 0, 1, 0, 0, 0, 0);
        bothRuns(hall, -1, BOUNDS);
        bothRuns(hall, 4, BOUNDS);
        for (int row = 0; row < 4; row++) {
            bothRuns(hall, row, 10);
        }
        hall.placeHat(0, 10);
        bothRuns(hall, 1, 9);
        hall.placeHat(1, 19);
        bothRuns(hall, 1, 8);
        bothRuns(hall, 0, 10);
        bothRuns(hall, 2, 10);
        hall.placeHat(2, 13);
        bothRuns(hall, 1, 4);
        hall.placeHat(3, 38);
        bothRuns(hall, 3, 8);
        hall.placeHat(4, 33);
        bothRuns(hall, 3, 4);
        hall.removeHat(3);
        bothRuns(hall, 3, 6);
    }

    private void rankOf(HatReservations hall, int... guests) {
        for (int rank = 0; rank < guests.length; rank++) {
            int wanted = rank;
            checks.due(guests[rank], () -> hall.guestAtRank(wanted));
        }
        checks.due(MISSING, () -> hall.guestAtRank(guests.length));
    }

    private void ranks() {
        checks.promise(35, "guestAtRank");
        HatReservations none = new HatReservations();
        checks.due(MISSING, () -> none.guestAtRank(0));
        checks.due(MISSING, () -> none.guestAtRank(-1));
        HatReservations hall = Halls.with(1, 0, 5, 0, 1, 2, 5, 1, 0, 2);
        checks.due(MISSING, () -> hall.guestAtRank(-1));
        checks.due(MISSING, () -> hall.guestAtRank(8));
        checks.due(MISSING, () -> hall.guestAtRank(Integer.MIN_VALUE));
        rankOf(hall, 1, 3, 0, 2, 4);
        hall.placeHat(4, 15);
        rankOf(hall, 4, 1, 3, 0, 2);
        hall.placeHat(2, 25);
        rankOf(hall, 2, 4, 1, 3, 0);
        hall.placeHat(0, 35);
        hall.placeHat(3, 5);
        rankOf(hall, 2, 4, 3, 0, 1);
        hall.giveFeather(0);
        hall.removeHat(2);
        rankOf(hall, 4, 3, 0, 1, 2);
    }

    private void totals() {
        HatReservations hall = Halls.with(0, 0, 9, 0, 0, 0, 0, 0);
        hall.placeHat(0, 0);
        hall.placeHat(3, 9);
        hall.leaveCoat(3, 0);
        hall.leaveCoat(2, 0);
        hall.pass(1);
        hall.touchHat(3);
        hall.sweep(1);
        checks.promise(36, "sweptTotal");
        checks.due(1, () -> hall.sweptTotal());
        checks.promise(37, "lapsedTotal");
        checks.due(1, () -> hall.lapsedTotal());
        checks.promise(38, "offersTaken");
        checks.due(1, () -> hall.offersTaken());
        checks.promise(39, "contestsWon");
        checks.due(0, () -> hall.contestsWon());
        hall.contest(1, 0);
        checks.due(1, () -> hall.contestsWon());
        hall.removeHat(1);
        hall.contest(1, 9);
        checks.due(2, () -> hall.contestsWon());
        hall.pass(1);
        hall.sweep(1);
        checks.promise(36, "sweptTotal");
        checks.due(2, () -> hall.sweptTotal());
        hall.undo();
        checks.due(1, () -> hall.sweptTotal());
        checks.promise(39, "contestsWon");
        hall.undo();
        hall.undo();
        checks.due(1, () -> hall.contestsWon());
    }
}
