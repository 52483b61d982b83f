/** The boundary cases of the terms: chairs, guests, hats, coats. */
final class HallBoundaries extends Boundaries {
    HallBoundaries(Checks checks) {
        super(checks);
    }

    @Override
    void all() {
        terms("The hall has 4 rows of 10 chairs.", this::rowsOfChairs);
        terms("The chair with the number 10 * r + c stands in the row r at the column c.", this::rowAndColumn);
        terms("A chair is covered by at most one hat.", this::oneHatAChair);
        terms("There are at most 8 guests, numbered from 0.", this::eightGuests);
        terms("Each guest has 0 to 9 feathers, one hat and one coat.", this::feathersHatAndCoat);
        terms("The brim of a hat is from 0 to 2.", this::brims);
        terms("A hat is placed on one chair or is not placed.", this::placedOrNot);
        terms("When a hat is placed on a chair that is not covered, it covers this chair.", this::coversItsChair);
        terms("On each side of this chair it also covers up to as many chairs of the row as its brim tells, "
                + "one after the other, until the row ends or a chair is covered.", this::coversBesideIt);
        terms("After that the hat covers no further chairs as long as it is placed, "
                + "even if chairs beside it become uncovered.", this::coversNoFurtherChairs);
        terms("The idle time of a placed hat is the number of minutes since it was placed, in whatever way, "
                + "or touched, whichever was later.", this::idleTime);
        terms("Each chair has a queue of at most 3 coats.", this::threeCoats);
        terms("A coat is in at most one queue.", this::oneQueue);
    }

    private void rowsOfChairs() {
        for (int chair = 0; chair < 40; chair++) {
            int known = chair;
            HatReservations hall = Halls.with(0, 0);
            due(1, () -> hall.placeHat(0, known));
            due(known, () -> hall.hatChair(0));
        }
        refused(BOUNDS, Halls::busy, hall -> hall.placeHat(1, -1));
        refused(BOUNDS, Halls::busy, hall -> hall.placeHat(1, 40));
        for (int row = 0; row < 4; row++) {
            int known = row;
            HatReservations hall = new HatReservations();
            due(10, () -> hall.describeRow(known));
            due("..........", () -> Halls.line(hall, known));
        }
        refused(BOUNDS, Halls::busy, hall -> hall.describeRow(-1));
        refused(BOUNDS, Halls::busy, hall -> hall.describeRow(4));
    }

    private void rowAndColumn() {
        for (int chair = 0; chair < 40; chair++) {
            HatReservations hall = Halls.with(0, 0);
            hall.placeHat(0, chair);
            for (int row = 0; row < 4; row++) {
                int known = row;
                int column = row == chair / 10 ? chair % 10 : -1;
                due(column, () -> Halls.line(hall, known).indexOf('A'));
                due(column < 0, () -> Halls.line(hall, known).equals(".........."));
            }
        }
    }

    private void oneHatAChair() {
        HatReservations hall = Halls.with(0, 2, 0, 2, 9, 2);
        hall.placeHat(0, 12);
        due(UNSUPPORTED, () -> hall.placeHat(1, 14));
        due(3, () -> hall.placeHat(1, 15));
        due("aaAaaBbb..", () -> Halls.line(hall, 1));
        due(true, () -> hall.contest(2, 14));
        due("aaAaCBbb..", () -> Halls.line(hall, 1));
        due(8, () -> hall.coverSize(0) + hall.coverSize(1) + hall.coverSize(2));
        due(8, () -> hall.coveredCount());
    }

    private void eightGuests() {
        HatReservations hall = new HatReservations();
        due(BOUNDS, () -> hall.feathers(0));
        for (int guest = 0; guest < 8; guest++) {
            int added = guest;
            due(BOUNDS, () -> hall.brim(added));
            due(added, () -> hall.addGuest(1, 1));
            due(1, () -> hall.brim(added));
            due(added + 1, () -> hall.guestCount());
        }
        due(STATE, () -> hall.addGuest(1, 1));
        due(8, () -> hall.guestCount());
        due(BOUNDS, () -> hall.brim(8));
        due(BOUNDS, () -> hall.brim(-1));
        refused(STATE, Halls::full, other -> other.addGuest(1, 1));
    }

    private void feathersHatAndCoat() {
        for (int feathers = 0; feathers <= 9; feathers++) {
            int known = feathers;
            HatReservations hall = new HatReservations();
            due(0, () -> hall.addGuest(known, 0));
            due(known, () -> hall.feathers(0));
            due(known < 9 ? (Object) (known + 1) : STATE, () -> hall.giveFeather(0));
        }
        refused(ARGUMENT, Halls::busy, hall -> hall.addGuest(-1, 0));
        refused(ARGUMENT, Halls::busy, hall -> hall.addGuest(10, 0));
        HatReservations hall = Halls.with(0, 0, 0, 0);
        hall.placeHat(0, 0);
        due(false, () -> hall.contest(1, 0));
        due(0, () -> hall.feathers(1));
        due(STATE, () -> hall.placeHat(0, 1));
        due(0, () -> hall.leaveCoat(1, 0));
        due(STATE, () -> hall.leaveCoat(1, 0));
        due(1, () -> hall.coatCount(0));
        due(1L, () -> hall.coveredMask());
    }

    private void brims() {
        for (int brim = 0; brim <= 2; brim++) {
            int known = brim;
            HatReservations hall = new HatReservations();
            due(0, () -> hall.addGuest(0, known));
            due(known, () -> hall.brim(0));
            due(1 + 2 * known, () -> hall.placeHat(0, 24));
        }
        refused(ARGUMENT, Halls::busy, hall -> hall.addGuest(0, -1));
        refused(ARGUMENT, Halls::busy, hall -> hall.addGuest(0, 3));
    }

    private void placedOrNot() {
        HatReservations hall = Halls.with(0, 0, 0, 0);
        due(false, () -> hall.isPlaced(0));
        due(MISSING, () -> hall.hatChair(0));
        hall.placeHat(0, 0);
        due(true, () -> hall.isPlaced(0));
        due(0, () -> hall.hatChair(0));
        due(STATE, () -> hall.placeHat(0, 39));
        due(0, () -> hall.hatChair(0));
        hall.removeHat(0);
        due(false, () -> hall.isPlaced(0));
        due(MISSING, () -> hall.hatChair(0));
        hall.placeHat(0, 39);
        due(39, () -> hall.hatChair(0));
        due(1L << 39, () -> hall.coveredMask());
        due(false, () -> hall.isPlaced(1));
    }

    private void coversItsChair() {
        HatReservations hall = Halls.with(0, 0, 0, 0, 0, 0);
        due(1, () -> hall.placeHat(0, 19));
        due(1, () -> hall.placeHat(1, 21));
        // the chairs on both sides are covered, the chair itself is not
        due(1, () -> hall.placeHat(2, 20));
        due(2, () -> hall.covererOf(20));
        refused(UNSUPPORTED, Halls::busy, busy -> busy.placeHat(1, 13));
        refused(UNSUPPORTED, Halls::busy, busy -> busy.placeHat(1, 17));
        notRefused(UNSUPPORTED, Halls::busy, busy -> busy.placeHat(1, 12));
        notRefused(UNSUPPORTED, Halls::busy, busy -> busy.placeHat(1, 18));
    }

    private void coversBesideIt() {
        for (int brim = 0; brim <= 2; brim++) {
            for (int chair = 0; chair < 40; chair++) {
                untilTheRowEnds(brim, chair);
            }
            for (int distance = 1; distance <= 3; distance++) {
                untilAChairIsCovered(brim, distance);
            }
        }
    }

    private void untilTheRowEnds(int brim, int chair) {
        HatReservations hall = Halls.with(0, brim);
        int left = Math.min(brim, chair % 10);
        int right = Math.min(brim, 9 - chair % 10);
        due(left + 1 + right, () -> hall.placeHat(0, chair));
        due(((1L << (left + 1 + right)) - 1) << (chair - left), () -> hall.coveredMask());
    }

    private void untilAChairIsCovered(int brim, int distance) {
        int reach = Math.min(brim, distance - 1);
        HatReservations left = Halls.with(0, 0, 0, brim);
        left.placeHat(0, 15 - distance);
        due(reach + 1 + brim, () -> left.placeHat(1, 15));
        due((1L << (15 - distance)) | ((1L << (reach + 1 + brim)) - 1) << (15 - reach), () -> left.coveredMask());
        HatReservations right = Halls.with(0, 0, 0, brim);
        right.placeHat(0, 15 + distance);
        due(brim + 1 + reach, () -> right.placeHat(1, 15));
        due((1L << (15 + distance)) | ((1L << (brim + 1 + reach)) - 1) << (15 - brim), () -> right.coveredMask());
    }

    private void coversNoFurtherChairs() {
        HatReservations hall = Halls.with(0, 0, 0, 2, 0, 2);
        hall.placeHat(0, 13);
        due(3, () -> hall.placeHat(1, 14));
        due(3, () -> hall.placeHat(2, 17));
        due("...ABbbCcc", () -> Halls.line(hall, 1));
        hall.removeHat(0);
        due("....BbbCcc", () -> Halls.line(hall, 1));
        hall.pass(5);
        hall.touchHat(1);
        due("....BbbCcc", () -> Halls.line(hall, 1));
        due(1, () -> hall.sweep(5));
        due("....Bbb...", () -> Halls.line(hall, 1));
        due(3, () -> hall.coverSize(1));
        hall.removeHat(1);
        due(5, () -> hall.placeHat(1, 14));
        afterALostPart();
    }

    private void afterALostPart() {
        HatReservations hall = Halls.with(0, 2, 1, 0);
        hall.placeHat(0, 15);
        hall.contest(1, 16);
        hall.removeHat(1);
        hall.touchHat(0);
        due("...aaA....", () -> Halls.line(hall, 1));
        due(3, () -> hall.coverSize(0));
    }

    private void idleTime() {
        HatReservations hall = Halls.with(0, 2, 0, 0, 9, 0);
        hall.pass(60);
        hall.placeHat(0, 5);
        due(0, () -> hall.idleMinutes(0));
        hall.pass(60);
        hall.pass(1);
        due(61, () -> hall.idleMinutes(0));
        hall.touchHat(0);
        due(0, () -> hall.idleMinutes(0));
        hall.pass(2);
        due(2, () -> hall.idleMinutes(0));
        hall.leaveCoat(1, 3);
        hall.pass(3);
        hall.contest(2, 6);
        due(5, () -> hall.idleMinutes(0));
        due(0, () -> hall.idleMinutes(2));
        hall.pass(4);
        hall.removeHat(0);
        // placed by an offer
        due(0, () -> hall.idleMinutes(1));
        due(4, () -> hall.idleMinutes(2));
        due(MISSING, () -> hall.idleMinutes(0));
        hall.pass(1);
        due(1, () -> hall.idleMinutes(1));
        hall.placeHat(0, 30);
        due(0, () -> hall.idleMinutes(0));
    }

    private void threeCoats() {
        int[] chairs = {0, 9, 10, 39};
        for (int chair : chairs) {
            HatReservations hall = Halls.with(0, 0, 0, 0, 0, 0, 0, 0, 0, 0);
            hall.placeHat(0, chair);
            due(0, () -> hall.coatCount(chair));
            due(0, () -> hall.leaveCoat(1, chair));
            due(1, () -> hall.leaveCoat(2, chair));
            due(2, () -> hall.leaveCoat(3, chair));
            due(UNSUPPORTED, () -> hall.leaveCoat(4, chair));
            due(3, () -> hall.coatCount(chair));
            due(chair, () -> hall.takeCoat(2));
            due(2, () -> hall.leaveCoat(4, chair));
            due(UNSUPPORTED, () -> hall.leaveCoat(2, chair));
        }
        refused(UNSUPPORTED, Halls::full, hall -> hall.leaveCoat(7, 15));
        notRefused(UNSUPPORTED, Halls::full, hall -> hall.leaveCoat(7, 13));
        twoFullQueues();
    }

    private void twoFullQueues() {
        HatReservations hall = Halls.with(0, 1, 0, 0, 0, 0, 0, 0, 0, 0, 0, 0, 0, 0, 0, 0);
        hall.placeHat(0, 15);
        for (int guest = 1; guest <= 6; guest++) {
            int owner = guest;
            due((owner - 1) / 2, () -> hall.leaveCoat(owner, owner % 2 == 0 ? 14 : 15));
        }
        due(UNSUPPORTED, () -> hall.leaveCoat(7, 14));
        due(UNSUPPORTED, () -> hall.leaveCoat(7, 15));
        due(0, () -> hall.leaveCoat(7, 16));
    }

    private void oneQueue() {
        HatReservations hall = Halls.with(0, 1, 0, 0);
        hall.placeHat(0, 15);
        hall.leaveCoat(1, 15);
        due(STATE, () -> hall.leaveCoat(1, 14));
        due(STATE, () -> hall.leaveCoat(1, 15));
        due(15, () -> hall.coatChair(1));
        due(0, () -> hall.coatCount(14));
        due(1, () -> hall.coatCount(15));
        hall.takeCoat(1);
        hall.leaveCoat(1, 14);
        due(14, () -> hall.coatChair(1));
        due(1, () -> hall.coatCount(14));
        due(0, () -> hall.coatCount(15));
    }
}
