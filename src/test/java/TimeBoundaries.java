/** The boundary cases of the promises 22 to 27: contests, time and sweeping. */
final class TimeBoundaries extends Boundaries {
    private static final String CHAIR = "- `chair`: the chair, 0 to 39";
    private static final String NO_GUEST_OR_CHAIR =
            "Throws `IndexOutOfBoundsException` if there is no such guest or chair";

    TimeBoundaries(Checks checks) {
        super(checks);
    }

    @Override
    void all() {
        contest();
        wouldWin();
        pass();
        sweep();
        promise(26, "Returns the time in minutes, initially 0.", this::now);
        idlestGuest();
    }

    /** Hats on the chairs 0 and 39, and a challenger for both. */
    private static HatReservations bothEnds() {
        HatReservations hall = Halls.with(2, 1, 3, 1, 3, 0);
        hall.placeHat(0, 0);
        hall.placeHat(1, 39);
        return hall;
    }

    private void contest() {
        promise(22, CHAIR, () -> {
            due(true, () -> bothEnds().contest(2, 0));
            due(false, () -> bothEnds().contest(2, 39));
            due(BOUNDS, () -> bothEnds().contest(2, -1));
            due(BOUNDS, () -> bothEnds().contest(2, 40));
        });
        promise(22, "Lets a guest contest a chair that the hat of another guest covers.", () -> {
            HatReservations hall = bothEnds();
            due(STATE, () -> hall.contest(0, 0));
            due(STATE, () -> hall.contest(0, 1));
            due(true, () -> hall.contest(2, 1));
            due("AC........", () -> Halls.line(hall, 0));
        });
        promise(22, "Returns whether the guest wins.", () -> {
            for (int feathers = 0; feathers <= 9; feathers++) {
                boolean wins = feathers > 5;
                HatReservations hall = Halls.with(5, 0, feathers, 0);
                hall.placeHat(0, 20);
                due(wins, () -> hall.contest(1, 20));
                due(wins ? 1 : 0, () -> hall.covererOf(20));
            }
        });
        promise(22, NO_GUEST_OR_CHAIR, () -> {
            guestsAlone((hall, guest) -> hall.contest(guest, 15));
            chairsAlone((hall, chair) -> hall.contest(4, chair));
            refused(BOUNDS, Halls::busy, hall -> hall.contest(7, 40));
        });
        promise(22, "Throws `NoSuchElementException` if the chair is not covered", () -> {
            refused(MISSING, Halls::busy, hall -> hall.contest(4, 12));
            refused(MISSING, Halls::busy, hall -> hall.contest(4, 18));
            refused(MISSING, Halls::busy, hall -> hall.contest(4, 2));
            refused(MISSING, Halls::busy, hall -> hall.contest(4, 38));
            notRefused(MISSING, Halls::busy, hall -> hall.contest(4, 13));
            notRefused(MISSING, Halls::busy, hall -> hall.contest(4, 17));
            notRefused(MISSING, Halls::busy, hall -> hall.contest(4, 1));
            notRefused(MISSING, Halls::busy, hall -> hall.contest(4, 39));
        });
        promise(22, "Throws `IllegalStateException` if the hat of the guest is placed", () -> {
            refused(STATE, Halls::busy, hall -> hall.contest(0, 0));
            refused(STATE, Halls::busy, hall -> hall.contest(0, 39));
            refused(STATE, Halls::busy, hall -> hall.contest(0, 15));
            refused(STATE, Halls::busy, hall -> hall.contest(2, 39));
            notRefused(STATE, Halls::busy, hall -> hall.contest(6, 39));
        });
    }

    private void wouldWin() {
        promise(23, CHAIR, () -> {
            due(true, () -> bothEnds().wouldWin(2, 0));
            due(false, () -> bothEnds().wouldWin(2, 39));
            due(BOUNDS, () -> bothEnds().wouldWin(2, -1));
            due(BOUNDS, () -> bothEnds().wouldWin(2, 40));
        });
        promise(23, "Returns whether the guest would win; false if contest() would throw an exception.", () -> {
            for (int guest = 0; guest < 7; guest++) {
                for (int chair = 0; chair < 40; chair++) {
                    int known = guest;
                    int contested = chair;
                    Object fought = Checks.answer(() -> Halls.busy().contest(known, contested));
                    due(fought.equals(true), () -> Halls.busy().wouldWin(known, contested));
                }
            }
            HatReservations hall = Halls.busy();
            hall.wouldWin(4, 39);
            hall.wouldWin(6, 39);
            due(Halls.everything(Halls.busy()), () -> Halls.everything(hall));
        });
        promise(23, NO_GUEST_OR_CHAIR, () -> {
            guestsAlone((hall, guest) -> hall.wouldWin(guest, 15));
            guestsAlone((hall, guest) -> hall.wouldWin(guest, 20));
            chairsAlone((hall, chair) -> hall.wouldWin(4, chair));
            chairsAlone((hall, chair) -> hall.wouldWin(0, chair));
        });
    }

    private void pass() {
        promise(24, "- `minutes`: the number of minutes, 1 to 60", () -> {
            for (int minutes = 1; minutes <= 60; minutes++) {
                int known = minutes;
                HatReservations hall = new HatReservations();
                due(known, () -> hall.pass(known));
                due(known, () -> hall.now());
            }
            due(ARGUMENT, () -> new HatReservations().pass(0));
            due(ARGUMENT, () -> new HatReservations().pass(61));
        });
        promise(24, "Returns the current time after the call, in minutes.", () -> {
            HatReservations hall = new HatReservations();
            due(60, () -> hall.pass(60));
            due(120, () -> hall.pass(60));
            due(121, () -> hall.pass(1));
            due(121, () -> hall.now());
        });
        promise(24, "Throws `IllegalArgumentException` if the number is not from 1 to 60", () -> {
            int[] bad = {Integer.MIN_VALUE, -60, -1, 0, 61, 240, Integer.MAX_VALUE};
            for (int minutes : bad) {
                refused(ARGUMENT, Halls::busy, hall -> hall.pass(minutes));
            }
        });
    }

    /** One hat, that has been idle for so many minutes. */
    private static HatReservations idle(int minutes) {
        HatReservations hall = Halls.with(0, 1);
        hall.placeHat(0, 39);
        for (int left = minutes; left > 0; left -= 60) {
            hall.pass(Math.min(60, left));
        }
        return hall;
    }

    private void sweep() {
        promise(25, "- `limit`: the number of minutes, 1 to 240", () -> {
            for (int limit = 1; limit <= 240; limit++) {
                int known = limit;
                due(1, () -> idle(known).sweep(known));
                due(0, () -> idle(known - 1).sweep(known));
            }
            due(ARGUMENT, () -> idle(240).sweep(0));
            due(ARGUMENT, () -> idle(241).sweep(241));
        });
        promise(25, "Removes all hats that have been idle for a number of minutes or longer.", () -> {
            due(0, () -> idle(29).sweep(30));
            due(1, () -> idle(30).sweep(30));
            due(1, () -> idle(31).sweep(30));
            HatReservations hall = Halls.with(0, 0, 0, 0, 0, 0);
            for (int guest = 0; guest < 3; guest++) {
                hall.placeHat(guest, guest);
                hall.pass(1);
            }
            due(2, () -> hall.sweep(2));
            due("..C.......", () -> Halls.line(hall, 0));
            due(0, () -> hall.sweep(2));
            due(1, () -> hall.sweep(1));
        });
        promise(25, "Afterwards the chairs of all these hats are offered.", this::sweepOffers);
        promise(25, "Returns the number of hats removed.", () -> {
            HatReservations none = Halls.with(0, 0);
            due(0, () -> none.sweep(1));
            for (int hats = 0; hats <= 8; hats++) {
                int count = hats;
                HatReservations hall = Halls.with(0, 0, 0, 0, 0, 0, 0, 0, 0, 0, 0, 0, 0, 0, 0, 0);
                for (int guest = 0; guest < count; guest++) {
                    hall.placeHat(guest, guest);
                }
                hall.pass(1);
                due(count, () -> hall.sweep(1));
                due(0, () -> hall.coveredCount());
            }
        });
        promise(25, "Throws `IllegalArgumentException` if the number is not from 1 to 240", () -> {
            int[] bad = {Integer.MIN_VALUE, -1, 0, 241, 999, Integer.MAX_VALUE};
            for (int limit : bad) {
                refused(ARGUMENT, Halls::busy, hall -> hall.sweep(limit));
            }
            notRefused(ARGUMENT, Halls::busy, hall -> hall.sweep(1));
            notRefused(ARGUMENT, Halls::busy, hall -> hall.sweep(240));
        });
    }

    private void sweepOffers() {
        HatReservations hall = Halls.with(0, 2, 0, 2, 0, 1, 0, 1, 0, 0);
        hall.placeHat(0, 37);
        hall.placeHat(1, 2);
        hall.leaveCoat(2, 39);
        hall.leaveCoat(3, 0);
        hall.pass(1);
        hall.placeHat(4, 20);
        due(2, () -> hall.sweep(1));
        due("Dd........", () -> Halls.line(hall, 0));
        due("E.........", () -> Halls.line(hall, 2));
        due("........cC", () -> Halls.line(hall, 3));
        due(2, () -> hall.offersTaken());
        due(2, () -> hall.sweptTotal());
        // the hats that the offers placed are idle for 0 minutes
        due(0, () -> hall.sweep(1));
        ownCoatUnderAnotherIdleHat();
    }

    private void ownCoatUnderAnotherIdleHat() {
        HatReservations hall = Halls.with(0, 0, 0, 0);
        hall.placeHat(0, 0);
        hall.placeHat(1, 1);
        hall.leaveCoat(0, 1);
        hall.pass(1);
        due(2, () -> hall.sweep(1));
        due(".A........", () -> Halls.line(hall, 0));
        due(0, () -> hall.lapsedTotal());
    }

    private void now() {
        HatReservations hall = new HatReservations();
        due(0, () -> hall.now());
        hall.pass(1);
        due(1, () -> hall.now());
        due(ARGUMENT, () -> hall.pass(0));
        due(1, () -> hall.now());
        hall.undo();
        due(0, () -> hall.now());
    }

    private void idlestGuest() {
        promise(27, "If several hats have the longest idle time, the guest with the lowest number is returned.", () -> {
            HatReservations hall = Halls.with(0, 0, 0, 0, 0, 0, 0, 0, 0, 0, 0, 0, 0, 0, 0, 0);
            for (int guest = 7; guest >= 0; guest--) {
                int lowest = guest;
                hall.placeHat(guest, guest);
                due(lowest, () -> hall.idlestGuest());
            }
            hall.pass(60);
            due(0, () -> hall.idlestGuest());
            for (int guest = 0; guest < 7; guest++) {
                int next = guest + 1;
                hall.touchHat(guest);
                due(next, () -> hall.idlestGuest());
            }
            hall.touchHat(7);
            due(0, () -> hall.idlestGuest());
        });
        promise(27, "Returns the guest whose hat has the longest idle time.", () -> {
            HatReservations hall = Halls.with(0, 0, 0, 0, 0, 0);
            hall.placeHat(2, 2);
            hall.pass(1);
            hall.placeHat(0, 0);
            due(2, () -> hall.idlestGuest());
            hall.removeHat(2);
            due(0, () -> hall.idlestGuest());
        });
        promise(27, "Throws `NoSuchElementException` if no hat is placed", () -> {
            refused(MISSING, HatReservations::new, hall -> hall.idlestGuest());
            refused(MISSING, () -> Halls.with(0, 0, 9, 2), hall -> hall.idlestGuest());
            refused(MISSING, TimeBoundaries::lifted, hall -> hall.idlestGuest());
            notRefused(MISSING, () -> idle(0), hall -> hall.idlestGuest());
        });
    }

    private static HatReservations lifted() {
        HatReservations hall = idle(60);
        hall.removeHat(0);
        return hall;
    }
}
