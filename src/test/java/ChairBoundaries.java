import java.util.function.BiFunction;
import java.util.function.Function;

/** The boundary cases of the promises 28 to 39: chairs and totals. */
final class ChairBoundaries extends Boundaries {
    private static final String CHAIR = "- `chair`: the chair, 0 to 39";
    private static final String NO_CHAIR = "Throws `IndexOutOfBoundsException` if there is no such chair";
    private static final String ROW = "- `row`: the row, 0 to 3";
    private static final String NO_ROW = "Throws `IndexOutOfBoundsException` if there is no such row";

    ChairBoundaries(Checks checks) {
        super(checks);
    }

    @Override
    void all() {
        covers();
        promise(30, "Returns the mask; bit k is set if the chair k is covered.", this::mask);
        promise(31, "Returns the number of covered chairs.", () -> counts(hall -> hall.coveredCount()));
        promise(32, "Returns the number of covered chairs.", () -> counts(hall -> hall.coveredCountByHat()));
        promise(32, "The result equals that of coveredCount().", this::sameCounts);
        promise(33, "Returns the length of the longest run of consecutive uncovered chairs in a row, found by scanning "
                + "the row.", () -> runs((hall, row) -> hall.longestFreeRun(row)));
        rows(33, (hall, row) -> hall.longestFreeRun(row));
        promise(34, "Returns the same length as longestFreeRun(), found by shifting a bit mask of the row.",
                () -> runs((hall, row) -> hall.longestFreeRunByMask(row)));
        rows(34, (hall, row) -> hall.longestFreeRunByMask(row));
        ranks();
        totals();
    }

    /** The chairs 0 and 39 are covered, by the guests 7 and 0. */
    private static HatReservations bothEnds() {
        HatReservations hall = Halls.with(0, 0, 0, 0, 0, 0, 0, 0, 0, 0, 0, 0, 0, 0, 0, 0);
        hall.placeHat(7, 0);
        hall.placeHat(0, 39);
        return hall;
    }

    private void covers() {
        promise(28, CHAIR, () -> {
            due(true, () -> bothEnds().isCovered(0));
            due(true, () -> bothEnds().isCovered(39));
            due(BOUNDS, () -> bothEnds().isCovered(-1));
            due(BOUNDS, () -> bothEnds().isCovered(40));
        });
        promise(28, "Returns whether a hat covers the chair.", () -> {
            HatReservations hall = Halls.busy();
            String covered = "0 1 13 14 15 16 17 39 ";
            StringBuilder found = new StringBuilder();
            for (int chair = 0; chair < 40; chair++) {
                found.append(hall.isCovered(chair) ? chair + " " : "");
            }
            due(covered, () -> found.toString());
        });
        promise(28, NO_CHAIR, () -> chairsAlone((hall, chair) -> hall.isCovered(chair)));
        promise(29, CHAIR, () -> {
            due(7, () -> bothEnds().covererOf(0));
            due(0, () -> bothEnds().covererOf(39));
            due(BOUNDS, () -> bothEnds().covererOf(-1));
            due(BOUNDS, () -> bothEnds().covererOf(40));
        });
        promise(29, NO_CHAIR, () -> chairsAlone((hall, chair) -> hall.covererOf(chair)));
        promise(29, "Throws `NoSuchElementException` if the chair is not covered", () -> {
            refused(MISSING, HatReservations::new, hall -> hall.covererOf(0));
            int[] uncovered = {2, 12, 18, 38};
            int[] covered = {1, 13, 17, 39};
            for (int index = 0; index < 4; index++) {
                int free = uncovered[index];
                int taken = covered[index];
                refused(MISSING, Halls::busy, hall -> hall.covererOf(free));
                notRefused(MISSING, Halls::busy, hall -> hall.covererOf(taken));
            }
        });
    }

    private void mask() {
        due(0L, () -> new HatReservations().coveredMask());
        for (int chair = 0; chair < 40; chair++) {
            long bit = 1L << chair;
            HatReservations hall = Halls.with(0, 0);
            hall.placeHat(0, chair);
            due(bit, () -> hall.coveredMask());
        }
        due((1L << 40) - 1, () -> crowd(8).coveredMask());
        due((1L << 35) - 1, () -> crowd(7).coveredMask());
    }

    /** So many hats that cover five chairs each, from the chair 0 on. */
    private static HatReservations crowd(int hats) {
        HatReservations hall = Halls.with(0, 2, 0, 2, 0, 2, 0, 2, 0, 2, 0, 2, 0, 2, 0, 2);
        for (int guest = 0; guest < hats; guest++) {
            hall.placeHat(guest, 5 * guest + 2);
        }
        return hall;
    }

    private void counts(Function<HatReservations, Object> call) {
        due(0, () -> call.apply(new HatReservations()));
        for (int hats = 0; hats <= 8; hats++) {
            int count = hats;
            due(5 * count, () -> call.apply(crowd(count)));
        }
        due(2, () -> call.apply(bothEnds()));
        due(8, () -> call.apply(Halls.busy()));
    }

    private void sameCounts() {
        // a hat that is cut down and one that another hat's chairs cut short
        HatReservations hall = Halls.with(0, 2, 5, 2, 0, 2);
        hall.placeHat(0, 15);
        hall.contest(1, 16);
        hall.placeHat(2, 11);
        due("cCcaaABbb.", () -> Halls.line(hall, 1));
        due(hall.coveredCount(), () -> hall.coveredCountByHat());
        due(9, () -> hall.coveredCountByHat());
    }

    private void rows(int number, BiFunction<HatReservations, Integer, Object> call) {
        promise(number, ROW, () -> {
            due(9, () -> call.apply(bothEnds(), 0));
            due(10, () -> call.apply(bothEnds(), 1));
            due(9, () -> call.apply(bothEnds(), 3));
            due(BOUNDS, () -> call.apply(bothEnds(), -1));
            due(BOUNDS, () -> call.apply(bothEnds(), 4));
        });
        promise(number, NO_ROW, () -> rowsAlone(call));
    }

    private void runs(BiFunction<HatReservations, Integer, Object> call) {
        for (int row = 0; row < 4; row++) {
            int known = row;
            due(10, () -> call.apply(new HatReservations(), known));
            due(0, () -> call.apply(crowd(8), known));
            for (int column = 0; column < 10; column++) {
                int longest = Math.max(column, 9 - column);
                HatReservations hall = Halls.with(0, 0);
                hall.placeHat(0, 10 * row + column);
                due(longest, () -> call.apply(hall, known));
            }
        }
        eachPattern(call);
    }

    /** Every row that eight hats of one chair can make has the longest run of its free chairs. */
    private void eachPattern(BiFunction<HatReservations, Integer, Object> call) {
        for (int pattern = 0; pattern < 1024; pattern++) {
            if (Integer.bitCount(pattern) <= 8) {
                HatReservations hall = Halls.with(0, 0, 0, 0, 0, 0, 0, 0, 0, 0, 0, 0, 0, 0, 0, 0);
                StringBuilder line = new StringBuilder();
                int guest = 0;
                for (int column = 0; column < 10; column++) {
                    boolean isCovered = (pattern >> column & 1) != 0;
                    line.append(isCovered ? 'x' : '.');
                    if (isCovered) {
                        hall.placeHat(guest++, 20 + column);
                    }
                }
                int longest = 10;
                while (longest > 0 && line.indexOf(".".repeat(longest)) < 0) {
                    longest--;
                }
                int want = longest;
                due(want, () -> call.apply(hall, 2));
            }
        }
    }

    private void rankIs(HatReservations hall, int... guests) {
        for (int rank = 0; rank < guests.length; rank++) {
            int place = rank;
            due(guests[rank], () -> hall.guestAtRank(place));
        }
        due(MISSING, () -> hall.guestAtRank(guests.length));
        due(MISSING, () -> hall.guestAtRank(-1));
    }

    private void ranks() {
        promise(35, "Returns the guest at a rank: the guest whose hat covers more chairs first; of guests with the same "
                + "number of chairs the one with more feathers first; then the one with the lower number first.", () -> {
            rankIs(new HatReservations());
            rankIs(Halls.with(3, 0), 0);
            rankIs(Halls.with(3, 0, 3, 2, 3, 1), 0, 1, 2);
            rankIs(Halls.with(0, 0, 9, 0, 8, 0, 9, 2), 1, 3, 2, 0);
            HatReservations hall = Halls.with(0, 2, 9, 0, 9, 1, 0, 1, 1, 1);
            hall.placeHat(0, 5);
            hall.placeHat(3, 15);
            hall.placeHat(4, 25);
            // 5 chairs, then 3 with more feathers, 3, and none with the lower number
            rankIs(hall, 0, 4, 3, 1, 2);
            hall.giveFeather(3);
            rankIs(hall, 0, 3, 4, 1, 2);
            hall.placeHat(1, 35);
            rankIs(hall, 0, 3, 4, 1, 2);
        });
        promise(35, "- `rank`: the rank, from 0", () -> {
            HatReservations hall = Halls.with(0, 0, 1, 0, 2, 0, 3, 0, 4, 0, 5, 0, 6, 0, 7, 0);
            rankIs(hall, 7, 6, 5, 4, 3, 2, 1, 0);
        });
        promise(35, "Throws `NoSuchElementException` if there is no such rank", () -> {
            int[] ranks = {Integer.MIN_VALUE, -1, 7, 8, Integer.MAX_VALUE};
            for (int rank : ranks) {
                refused(MISSING, Halls::busy, hall -> hall.guestAtRank(rank));
            }
            notRefused(MISSING, Halls::busy, hall -> hall.guestAtRank(0));
            notRefused(MISSING, Halls::busy, hall -> hall.guestAtRank(6));
            notRefused(MISSING, Halls::full, hall -> hall.guestAtRank(7));
            refused(MISSING, Halls::full, hall -> hall.guestAtRank(8));
            refused(MISSING, HatReservations::new, hall -> hall.guestAtRank(0));
        });
    }

    private void totals() {
        promise(36, "Returns the number of hats that sweep() has removed so far.", () -> {
            HatReservations hall = bothEnds();
            due(0, () -> hall.sweptTotal());
            hall.pass(1);
            hall.sweep(2);
            due(0, () -> hall.sweptTotal());
            hall.removeHat(7);
            due(0, () -> hall.sweptTotal());
            hall.sweep(1);
            due(1, () -> hall.sweptTotal());
            hall.placeHat(0, 0);
            hall.placeHat(1, 1);
            hall.pass(1);
            hall.sweep(1);
            due(3, () -> hall.sweptTotal());
            due(ARGUMENT, () -> hall.sweep(0));
            due(3, () -> hall.sweptTotal());
        });
        promise(37, "Returns the number of coats that have lapsed so far.", this::lapsedTotal);
        promise(38, "Returns the number of chairs that have been given to the owner of a coat by an offer so far.",
                this::offersTaken);
        promise(39, "Returns the number of contests that were won so far.", () -> {
            HatReservations hall = Halls.with(0, 0, 0, 0, 9, 0);
            due(0, () -> hall.contestsWon());
            hall.placeHat(0, 0);
            hall.contest(1, 0);
            due(0, () -> hall.contestsWon());
            hall.contest(2, 0);
            due(1, () -> hall.contestsWon());
            hall.removeHat(2);
            hall.placeHat(0, 0);
            hall.wouldWin(2, 0);
            due(STATE, () -> hall.contest(0, 0));
            due(MISSING, () -> hall.contest(2, 1));
            due(1, () -> hall.contestsWon());
            hall.contest(2, 0);
            due(2, () -> hall.contestsWon());
        });
    }

    /** The coats of three guests with placed hats, on one chair. */
    private void lapsedTotal() {
        HatReservations hall = bothEnds();
        due(0, () -> hall.lapsedTotal());
        for (int guest = 1; guest <= 3; guest++) {
            hall.leaveCoat(guest, 39);
        }
        hall.takeCoat(2);
        due(0, () -> hall.lapsedTotal());
        hall.leaveCoat(2, 39);
        for (int guest = 1; guest <= 3; guest++) {
            hall.placeHat(guest, 20 + guest);
        }
        due(0, () -> hall.lapsedTotal());
        hall.removeHat(0);
        due(3, () -> hall.lapsedTotal());
        hall.removeHat(7);
        due(3, () -> hall.lapsedTotal());
        hall.leaveCoat(1, 22);
        hall.removeHat(2);
        due(4, () -> hall.lapsedTotal());
        due(0, () -> hall.offersTaken());
    }

    private void offersTaken() {
        HatReservations hall = bothEnds();
        due(0, () -> hall.offersTaken());
        hall.leaveCoat(1, 0);
        hall.leaveCoat(2, 0);
        hall.leaveCoat(3, 39);
        due(0, () -> hall.offersTaken());
        hall.removeHat(7);
        due(1, () -> hall.offersTaken());
        hall.removeHat(1);
        due(2, () -> hall.offersTaken());
        hall.removeHat(2);
        due(2, () -> hall.offersTaken());
        hall.pass(1);
        hall.sweep(1);
        due(3, () -> hall.offersTaken());
        hall.placeHat(4, 5);
        due(3, () -> hall.offersTaken());
    }
}
