import java.util.function.BiFunction;

/** The boundary cases of the promises 14 to 21: coats. */
final class CoatBoundaries extends Boundaries {
    private static final String NO_GUEST = "Throws `IndexOutOfBoundsException` if there is no such guest";
    private static final String NO_CHAIR = "Throws `IndexOutOfBoundsException` if there is no such chair";
    private static final String CHAIR = "- `chair`: the chair, 0 to 39";
    private static final String NOT_LEFT =
            "Throws `NoSuchElementException` if the coat of the guest is not left on a chair";

    CoatBoundaries(Checks checks) {
        super(checks);
    }

    @Override
    void all() {
        leaveCoat();
        takeCoat();
        promise(16, "Returns whether the coat is left on a chair.", this::hasCoatLeft);
        promise(16, NO_GUEST, () -> guestsAlone((hall, guest) -> hall.hasCoatLeft(guest)));
        promise(17, "Returns the chair on which the coat of a guest is left.", this::coatChair);
        promise(17, NO_GUEST, () -> guestsAlone((hall, guest) -> hall.coatChair(guest)));
        promise(17, NOT_LEFT, () -> notLeft((hall, guest) -> hall.coatChair(guest)));
        coatCount();
        coatOwner();
        nextClaimant(20, (hall, chair) -> hall.nextClaimant(chair));
        promise(20, "Returns the guest who would get a chair if it was offered now, found by walking through its queue.",
                () -> claimants((hall, chair) -> hall.nextClaimant(chair)));
        nextClaimant(21, (hall, chair) -> hall.nextClaimantByTime(chair));
        promise(21, "Returns the same guest as nextClaimant(), found by comparing the times at which all coats were left.",
                () -> claimants((hall, chair) -> hall.nextClaimantByTime(chair)));
    }

    /** The chairs 0 and 39 with three coats each. */
    private static HatReservations bothEnds() {
        HatReservations hall = Halls.with(0, 0, 0, 0, 0, 0, 0, 0, 0, 0, 0, 0, 0, 0, 0, 0);
        hall.placeHat(6, 0);
        hall.placeHat(7, 39);
        int[] owners = {2, 0, 1, 5, 3, 4};
        for (int index = 0; index < owners.length; index++) {
            hall.leaveCoat(owners[index], index < 3 ? 0 : 39);
        }
        return hall;
    }

    private void leaveCoat() {
        promise(14, CHAIR, () -> {
            HatReservations hall = Halls.with(0, 0, 0, 0);
            hall.placeHat(0, 39);
            hall.placeHat(1, 0);
            due(0, () -> hall.leaveCoat(0, 0));
            due(0, () -> hall.leaveCoat(1, 39));
            due(BOUNDS, () -> Halls.busy().leaveCoat(2, -1));
            due(BOUNDS, () -> Halls.busy().leaveCoat(2, 40));
        });
        promise(14, "Leaves the coat of a guest on a chair, behind the coats that are on it.", () -> {
            HatReservations hall = bothEnds();
            due(2, () -> hall.coatOwner(0, 0));
            due(0, () -> hall.coatOwner(0, 1));
            due(1, () -> hall.coatOwner(0, 2));
            hall.takeCoat(2);
            due(2, () -> hall.leaveCoat(2, 0));
            due(2, () -> hall.coatOwner(0, 2));
            due(0, () -> hall.coatOwner(0, 0));
            for (int guest = 0; guest < 8; guest++) {
                behindOneCoat(guest, (guest + 1) % 8, (guest + 2) % 8);
            }
        });
        promise(14, "Returns the position of the coat in the queue of the chair, from 0.", () -> {
            HatReservations hall = Halls.with(0, 1, 0, 0, 0, 0, 0, 0);
            hall.placeHat(0, 20);
            due(0, () -> hall.leaveCoat(3, 21));
            due(1, () -> hall.leaveCoat(1, 21));
            due(2, () -> hall.leaveCoat(2, 21));
            hall.takeCoat(1);
            due(0, () -> hall.leaveCoat(1, 20));
        });
        promise(14, "Throws `IndexOutOfBoundsException` if there is no such guest or chair", () -> {
            guestsAlone((hall, guest) -> hall.leaveCoat(guest, 13));
            chairsAlone((hall, chair) -> hall.leaveCoat(2, chair));
            refused(BOUNDS, Halls::busy, hall -> hall.leaveCoat(-1, 40));
        });
        promise(14, "Throws `IllegalStateException` if the coat of the guest is left on a chair", () -> {
            refused(STATE, Halls::busy, hall -> hall.leaveCoat(6, 13));
            refused(STATE, Halls::busy, hall -> hall.leaveCoat(6, 14));
            refused(STATE, Halls::busy, hall -> hall.leaveCoat(1, 39));
            refused(STATE, CoatBoundaries::bothEnds, hall -> hall.leaveCoat(2, 39));
            notRefused(STATE, Halls::busy, hall -> hall.leaveCoat(2, 13));
        });
        promise(14, "Throws `UnsupportedOperationException` if the chair is not covered, is covered by the hat of this "
                + "guest, or has 3 coats", this::leaveCoatUnsupported);
    }

    private void behindOneCoat(int guest, int first, int hat) {
        HatReservations hall = Halls.with(0, 0, 0, 0, 0, 0, 0, 0, 0, 0, 0, 0, 0, 0, 0, 0);
        hall.placeHat(hat, 20);
        due(0, () -> hall.leaveCoat(first, 20));
        due(1, () -> hall.leaveCoat(guest, 20));
        due(2, () -> hall.coatCount(20));
        due(guest, () -> hall.coatOwner(20, 1));
        due(first, () -> hall.nextClaimantByTime(20));
        hall.takeCoat(first);
        due(1, () -> hall.coatCount(20));
        due(guest, () -> hall.coatOwner(20, 0));
        due(guest, () -> hall.nextClaimant(20));
        due(guest, () -> hall.nextClaimantByTime(20));
        due(1, () -> hall.leaveCoat(first, 20));
    }

    private void leaveCoatUnsupported() {
        refused(UNSUPPORTED, Halls::busy, hall -> hall.leaveCoat(2, 12));
        refused(UNSUPPORTED, Halls::busy, hall -> hall.leaveCoat(2, 18));
        refused(UNSUPPORTED, Halls::busy, hall -> hall.leaveCoat(2, 38));
        refused(UNSUPPORTED, () -> Halls.with(0, 0), hall -> hall.leaveCoat(0, 0));
        refused(UNSUPPORTED, Halls::busy, hall -> hall.leaveCoat(2, 0));
        refused(UNSUPPORTED, Halls::busy, hall -> hall.leaveCoat(2, 1));
        refused(UNSUPPORTED, Halls::busy, hall -> hall.leaveCoat(0, 13));
        refused(UNSUPPORTED, Halls::busy, hall -> hall.leaveCoat(2, 15));
        refused(UNSUPPORTED, CoatBoundaries::bothEnds, hall -> hall.leaveCoat(7, 0));
        refused(UNSUPPORTED, CoatBoundaries::bothEnds, hall -> hall.leaveCoat(6, 39));
        notRefused(UNSUPPORTED, Halls::busy, hall -> hall.leaveCoat(2, 13));
        notRefused(UNSUPPORTED, Halls::busy, hall -> hall.leaveCoat(2, 17));
        notRefused(UNSUPPORTED, Halls::busy, hall -> hall.leaveCoat(0, 0));
        HatReservations hall = bothEnds();
        hall.takeCoat(1);
        due(2, () -> hall.leaveCoat(7, 0));
    }

    private void takeCoat() {
        promise(15, "Returns the chair on which the coat was.", () -> {
            HatReservations hall = bothEnds();
            due(0, () -> hall.takeCoat(2));
            due(39, () -> hall.takeCoat(4));
            due(0, () -> hall.takeCoat(1));
            due(39, () -> hall.takeCoat(3));
            due(0, () -> hall.takeCoat(0));
            due(39, () -> hall.takeCoat(5));
            due(0, () -> hall.coatCount(0) + hall.coatCount(39));
            due(0, () -> hall.lapsedTotal());
        });
        promise(15, "Takes the coat of a guest back.", this::takeFromEachPosition);
        promise(15, NO_GUEST, () -> guestsAlone((hall, guest) -> hall.takeCoat(guest)));
        promise(15, NOT_LEFT, () -> notLeft((hall, guest) -> hall.takeCoat(guest)));
    }

    private void takeFromEachPosition() {
        int[] owners = {2, 0, 1};
        for (int taken = 0; taken < 3; taken++) {
            int owner = owners[taken];
            int first = taken == 0 ? 0 : 2;
            int second = taken == 2 ? 0 : 1;
            HatReservations hall = bothEnds();
            hall.takeCoat(owner);
            due(false, () -> hall.hasCoatLeft(owner));
            due(2, () -> hall.coatCount(0));
            due(first, () -> hall.coatOwner(0, 0));
            due(second, () -> hall.coatOwner(0, 1));
            due(MISSING, () -> hall.coatOwner(0, 2));
            due(3, () -> hall.coatCount(39));
            due(5, () -> hall.coatOwner(39, 0));
            due(4, () -> hall.coatOwner(39, 2));
        }
    }

    private void notLeft(BiFunction<HatReservations, Integer, Object> call) {
        for (int guest = 0; guest < 7; guest++) {
            int known = guest;
            if (guest == 0 || guest == 2 || guest == 3) {
                refused(MISSING, Halls::busy, hall -> call.apply(hall, known));
            } else {
                notRefused(MISSING, Halls::busy, hall -> call.apply(hall, known));
            }
        }
        refused(MISSING, CoatBoundaries::taken, hall -> call.apply(hall, 1));
        refused(MISSING, CoatBoundaries::offered, hall -> call.apply(hall, 1));
        refused(MISSING, CoatBoundaries::lapsed, hall -> call.apply(hall, 1));
    }

    private static HatReservations left() {
        HatReservations hall = Halls.with(0, 0, 0, 0);
        hall.placeHat(0, 0);
        hall.leaveCoat(1, 0);
        return hall;
    }

    private static HatReservations taken() {
        HatReservations hall = left();
        hall.takeCoat(1);
        return hall;
    }

    private static HatReservations offered() {
        HatReservations hall = left();
        hall.removeHat(0);
        return hall;
    }

    private static HatReservations lapsed() {
        HatReservations hall = left();
        hall.placeHat(1, 39);
        hall.removeHat(0);
        return hall;
    }

    private void hasCoatLeft() {
        due(true, () -> left().hasCoatLeft(1));
        due(false, () -> left().hasCoatLeft(0));
        due(false, () -> taken().hasCoatLeft(1));
        due(false, () -> offered().hasCoatLeft(1));
        due(false, () -> lapsed().hasCoatLeft(1));
    }

    private void coatChair() {
        HatReservations hall = bothEnds();
        due(0, () -> hall.coatChair(0));
        due(0, () -> hall.coatChair(1));
        due(39, () -> hall.coatChair(3));
        due(39, () -> hall.coatChair(5));
    }

    private void coatCount() {
        promise(18, CHAIR, () -> {
            HatReservations hall = bothEnds();
            due(3, () -> hall.coatCount(0));
            due(3, () -> hall.coatCount(39));
            due(BOUNDS, () -> hall.coatCount(-1));
            due(BOUNDS, () -> hall.coatCount(40));
        });
        promise(18, "Returns the number of coats.", () -> {
            HatReservations hall = Halls.with(0, 0, 0, 0, 0, 0, 0, 0);
            hall.placeHat(0, 17);
            due(0, () -> hall.coatCount(17));
            for (int guest = 1; guest <= 3; guest++) {
                int count = guest;
                hall.leaveCoat(guest, 17);
                due(count, () -> hall.coatCount(17));
            }
            due(0, () -> hall.coatCount(16));
            due(0, () -> hall.coatCount(18));
            hall.removeHat(0);
            due(2, () -> hall.coatCount(17));
        });
        promise(18, NO_CHAIR, () -> chairsAlone((hall, chair) -> hall.coatCount(chair)));
    }

    private void coatOwner() {
        promise(19, CHAIR, () -> {
            HatReservations hall = bothEnds();
            due(2, () -> hall.coatOwner(0, 0));
            due(5, () -> hall.coatOwner(39, 0));
            due(BOUNDS, () -> hall.coatOwner(-1, 0));
            due(BOUNDS, () -> hall.coatOwner(40, 0));
        });
        promise(19, "- `position`: the position, from 0", () -> {
            HatReservations hall = bothEnds();
            due(5, () -> hall.coatOwner(39, 0));
            due(3, () -> hall.coatOwner(39, 1));
            due(4, () -> hall.coatOwner(39, 2));
            due(MISSING, () -> hall.coatOwner(39, -1));
            due(MISSING, () -> hall.coatOwner(39, 3));
        });
        promise(19, NO_CHAIR, () -> chairsAlone((hall, chair) -> hall.coatOwner(chair, 0)));
        promise(19, "Throws `NoSuchElementException` if there is no such position", () -> {
            int[] positions = {Integer.MIN_VALUE, -1, 3, 4, Integer.MAX_VALUE};
            for (int position : positions) {
                refused(MISSING, Halls::busy, hall -> hall.coatOwner(15, position));
            }
            refused(MISSING, Halls::busy, hall -> hall.coatOwner(13, 1));
            refused(MISSING, Halls::busy, hall -> hall.coatOwner(14, 0));
            refused(MISSING, Halls::busy, hall -> hall.coatOwner(20, 0));
            refused(MISSING, Halls::busy, hall -> hall.coatOwner(20, -1));
            notRefused(MISSING, Halls::busy, hall -> hall.coatOwner(15, 2));
            notRefused(MISSING, Halls::busy, hall -> hall.coatOwner(13, 0));
        });
    }

    private void nextClaimant(int number, BiFunction<HatReservations, Integer, Object> call) {
        promise(number, CHAIR, () -> {
            due(2, () -> call.apply(bothEnds(), 0));
            due(5, () -> call.apply(bothEnds(), 39));
            due(BOUNDS, () -> call.apply(bothEnds(), -1));
            due(BOUNDS, () -> call.apply(bothEnds(), 40));
        });
        promise(number, NO_CHAIR, () -> chairsAlone(call));
        promise(number, "Throws `NoSuchElementException` if no guest would get it", () -> {
            refused(MISSING, HatReservations::new, hall -> call.apply(hall, 0));
            refused(MISSING, Halls::busy, hall -> call.apply(hall, 20));
            refused(MISSING, Halls::busy, hall -> call.apply(hall, 14));
            notRefused(MISSING, Halls::busy, hall -> call.apply(hall, 13));
            for (int placed = 0; placed <= 3; placed++) {
                int hats = placed;
                if (placed < 3) {
                    notRefused(MISSING, () -> placedOwners(hats), hall -> call.apply(hall, 39));
                } else {
                    refused(MISSING, () -> placedOwners(hats), hall -> call.apply(hall, 39));
                }
            }
        });
    }

    /** The chair 39 has the coats of 5, 3 and 4, the first of whom have placed hats. */
    private static HatReservations placedOwners(int count) {
        HatReservations hall = bothEnds();
        int[] owners = {5, 3, 4};
        for (int index = 0; index < count; index++) {
            hall.placeHat(owners[index], 20 + index);
        }
        return hall;
    }

    private void claimants(BiFunction<HatReservations, Integer, Object> call) {
        due(5, () -> call.apply(placedOwners(0), 39));
        due(3, () -> call.apply(placedOwners(1), 39));
        due(4, () -> call.apply(placedOwners(2), 39));
        due(MISSING, () -> call.apply(placedOwners(3), 39));
        // a coat taken and left again is the latest, in the same minute too
        HatReservations hall = bothEnds();
        hall.takeCoat(5);
        hall.leaveCoat(5, 39);
        due(3, () -> call.apply(hall, 39));
        hall.pass(1);
        hall.takeCoat(3);
        hall.leaveCoat(3, 39);
        due(4, () -> call.apply(hall, 39));
        // coats on other chairs, left earlier, do not count
        due(2, () -> call.apply(hall, 0));
        // who would get it gets it
        due(1, () -> hall.removeHat(7));
        due(4, () -> hall.covererOf(39));
        due(5, () -> call.apply(hall, 39));
        ownHatOverOwnCoat(call);
    }

    private void ownHatOverOwnCoat(BiFunction<HatReservations, Integer, Object> call) {
        HatReservations hall = Halls.with(0, 0, 5, 0, 0, 0);
        hall.placeHat(0, 5);
        hall.leaveCoat(1, 5);
        hall.contest(1, 5);
        due(MISSING, () -> call.apply(hall, 5));
        hall.leaveCoat(2, 5);
        due(2, () -> call.apply(hall, 5));
    }
}
