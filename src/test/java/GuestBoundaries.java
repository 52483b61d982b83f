import java.util.function.BiFunction;

/** The boundary cases of the promises 1 to 13: guests and hats. */
final class GuestBoundaries extends Boundaries {
    private static final String NO_GUEST = "Throws `IndexOutOfBoundsException` if there is no such guest";
    private static final String NOT_PLACED = "Throws `NoSuchElementException` if the hat of the guest is not placed";

    GuestBoundaries(Checks checks) {
        super(checks);
    }

    @Override
    void all() {
        promise(1, "Creates a hall without guests.", this::newHall);
        addGuest();
        giveFeather();
        placeHat();
        removeHat();
        touchHat();
        promise(7, "Returns the number of guests.", this::guestCount);
        promise(8, "Returns the number of feathers.", this::feathers);
        noSuchGuest(8, (hall, guest) -> hall.feathers(guest));
        promise(9, "Returns the brim.", this::brim);
        noSuchGuest(9, (hall, guest) -> hall.brim(guest));
        promise(10, "Returns whether the hat is placed.", this::isPlaced);
        noSuchGuest(10, (hall, guest) -> hall.isPlaced(guest));
        promise(11, "Returns the chair on which the hat of a guest is placed.", this::hatChair);
        noSuchGuest(11, (hall, guest) -> hall.hatChair(guest));
        notPlaced(11, (hall, guest) -> hall.hatChair(guest));
        promise(12, "Returns the number of chairs, 0 if the hat is not placed.", this::coverSize);
        noSuchGuest(12, (hall, guest) -> hall.coverSize(guest));
        promise(13, "Returns the idle time in minutes.", this::idleMinutes);
        noSuchGuest(13, (hall, guest) -> hall.idleMinutes(guest));
        notPlaced(13, (hall, guest) -> hall.idleMinutes(guest));
    }

    private void noSuchGuest(int number, BiFunction<HatReservations, Integer, Object> call) {
        promise(number, NO_GUEST, () -> guestsAlone(call));
    }

    private void notPlaced(int number, BiFunction<HatReservations, Integer, Object> call) {
        promise(number, NOT_PLACED, () -> {
            refused(MISSING, Halls::busy, hall -> call.apply(hall, 1));
            refused(MISSING, Halls::busy, hall -> call.apply(hall, 6));
            refused(MISSING, () -> Halls.with(0, 0), hall -> call.apply(hall, 0));
            refused(MISSING, GuestBoundaries::lifted, hall -> call.apply(hall, 0));
            notRefused(MISSING, Halls::busy, hall -> call.apply(hall, 0));
            notRefused(MISSING, Halls::busy, hall -> call.apply(hall, 2));
            notRefused(MISSING, Halls::busy, hall -> call.apply(hall, 3));
        });
    }

    /** The hat of the guest 0 was on the chair 0 and is not any more. */
    private static HatReservations lifted() {
        HatReservations hall = Halls.with(0, 0);
        hall.placeHat(0, 0);
        hall.removeHat(0);
        return hall;
    }

    private void newHall() {
        HatReservations hall = new HatReservations();
        due(0, () -> hall.guestCount());
        due("0 0 0 0 0" + " -1".repeat(40), () -> Halls.state(hall));
        due(BOUNDS, () -> hall.lineAt(0));
        due(STATE, () -> hall.undo());
        due(STATE, () -> hall.restore());
        due(MISSING, () -> hall.errorPosition());
        due(MISSING, () -> hall.failedCommand());
        due(1, () -> hall.append(';'));
        HatReservations other = Halls.busy();
        due(7, () -> other.guestCount());
        due(0, () -> hall.guestCount());
        due(2, () -> hall.append(';'));
    }

    private void addGuest() {
        promise(2, "Adds a guest, whose hat is not placed and whose coat is not left.", () -> {
            HatReservations hall = Halls.busy();
            hall.addGuest(0, 0);
            due(false, () -> hall.isPlaced(7));
            due(false, () -> hall.hasCoatLeft(7));
            due(MISSING, () -> hall.hatChair(7));
            due(MISSING, () -> hall.coatChair(7));
            due(0, () -> hall.coverSize(7));
            // a guest who was undone has left nothing to the next one
            HatReservations again = Halls.with(0, 0, 9, 2);
            again.placeHat(0, 0);
            again.leaveCoat(1, 0);
            again.placeHat(1, 30);
            due(4, () -> again.undo());
            due(3, () -> again.undo());
            due(2, () -> again.undo());
            due(1, () -> again.undo());
            due(1, () -> again.addGuest(0, 0));
            due(false, () -> again.isPlaced(1));
            due(false, () -> again.hasCoatLeft(1));
        });
        promise(2, "- `feathers`: the number of feathers, 0 to 9", () -> {
            for (int feathers = 0; feathers <= 9; feathers++) {
                int known = feathers;
                HatReservations hall = new HatReservations();
                due(0, () -> hall.addGuest(known, 0));
                due(known, () -> hall.feathers(0));
            }
            due(ARGUMENT, () -> new HatReservations().addGuest(-1, 0));
            due(ARGUMENT, () -> new HatReservations().addGuest(10, 0));
        });
        promise(2, "- `brim`: the brim of the hat, 0 to 2", () -> {
            for (int brim = 0; brim <= 2; brim++) {
                int known = brim;
                HatReservations hall = new HatReservations();
                due(0, () -> hall.addGuest(0, known));
                due(known, () -> hall.brim(0));
            }
            due(ARGUMENT, () -> new HatReservations().addGuest(0, -1));
            due(ARGUMENT, () -> new HatReservations().addGuest(0, 3));
        });
        promise(2, "Returns the number of the guest.", () -> {
            HatReservations hall = new HatReservations();
            for (int guest = 0; guest < 8; guest++) {
                int number = guest;
                due(number, () -> hall.addGuest(9 - number, number % 3));
            }
        });
        promise(2, "Throws `IllegalArgumentException` if the number of feathers or the brim is out of range", () -> {
            int[][] bad = {{-1, 0}, {10, 0}, {0, -1}, {0, 3}, {-1, -1}, {10, 3}, {9, 3}, {10, 2}, {-1, 2}, {9, -1},
                {Integer.MIN_VALUE, 0}, {Integer.MAX_VALUE, 0}, {0, Integer.MIN_VALUE}, {0, Integer.MAX_VALUE}};
            for (int[] pair : bad) {
                refused(ARGUMENT, Halls::busy, hall -> hall.addGuest(pair[0], pair[1]));
            }
        });
        promise(2, "Throws `IllegalStateException` if there are 8 guests", () -> {
            refused(STATE, Halls::full, hall -> hall.addGuest(0, 0));
            refused(STATE, Halls::full, hall -> hall.addGuest(9, 2));
            notRefused(STATE, Halls::busy, hall -> hall.addGuest(9, 2));
        });
    }

    private void giveFeather() {
        promise(3, "Returns the number of feathers of the guest after the call.", () -> {
            HatReservations hall = Halls.with(0, 0, 0, 0);
            for (int feathers = 1; feathers <= 9; feathers++) {
                int after = feathers;
                due(after, () -> hall.giveFeather(0));
                due(after, () -> hall.feathers(0));
            }
            due(STATE, () -> hall.giveFeather(0));
            due(0, () -> hall.feathers(1));
        });
        noSuchGuest(3, (hall, guest) -> hall.giveFeather(guest));
        promise(3, "Throws `IllegalStateException` if the guest has 9 feathers", () -> {
            refused(STATE, Halls::busy, hall -> hall.giveFeather(0));
            notRefused(STATE, () -> Halls.with(8, 0), hall -> hall.giveFeather(0));
            refused(STATE, () -> Halls.with(9, 0), hall -> hall.giveFeather(0));
        });
    }

    private void placeHat() {
        promise(4, "- `chair`: the chair, 0 to 39", () -> {
            HatReservations hall = Halls.with(0, 1, 0, 1);
            due(2, () -> hall.placeHat(0, 0));
            due(2, () -> hall.placeHat(1, 39));
            due(3L | 3L << 38, () -> hall.coveredMask());
            due(BOUNDS, () -> Halls.with(0, 0).placeHat(0, -1));
            due(BOUNDS, () -> Halls.with(0, 0).placeHat(0, 40));
        });
        promise(4, "Returns the number of chairs that the hat covers.", () -> {
            HatReservations hall = Halls.with(0, 2, 0, 2, 0, 2, 0, 0);
            due(5, () -> hall.placeHat(0, 4));
            due(3, () -> hall.placeHat(1, 7));
            due(2, () -> hall.placeHat(2, 0));
            due(UNSUPPORTED, () -> hall.placeHat(3, 1));
            due(1, () -> hall.placeHat(3, 10));
        });
        promise(4, "Throws `IndexOutOfBoundsException` if there is no such guest or chair", () -> {
            guestsAlone((hall, guest) -> hall.placeHat(guest, 25));
            chairsAlone((hall, chair) -> hall.placeHat(1, chair));
            refused(BOUNDS, Halls::busy, hall -> hall.placeHat(-1, -1));
        });
        promise(4, "Throws `IllegalStateException` if the hat of the guest is placed", () -> {
            refused(STATE, Halls::busy, hall -> hall.placeHat(0, 25));
            refused(STATE, Halls::busy, hall -> hall.placeHat(0, 15));
            refused(STATE, Halls::busy, hall -> hall.placeHat(2, 25));
            notRefused(STATE, Halls::busy, hall -> hall.placeHat(1, 25));
            notRefused(STATE, GuestBoundaries::lifted, hall -> hall.placeHat(0, 0));
        });
        promise(4, "Throws `UnsupportedOperationException` if the chair is covered", () -> {
            for (int chair = 12; chair <= 18; chair++) {
                int known = chair;
                if (known >= 13 && known <= 17) {
                    refused(UNSUPPORTED, Halls::busy, hall -> hall.placeHat(1, known));
                } else {
                    notRefused(UNSUPPORTED, Halls::busy, hall -> hall.placeHat(1, known));
                }
            }
        });
    }

    private void removeHat() {
        promise(5, "Afterwards its chairs are offered.", () -> {
            HatReservations hall = Halls.with(0, 2, 0, 0, 0, 0, 0, 0);
            hall.placeHat(0, 37);
            hall.leaveCoat(1, 35);
            hall.leaveCoat(2, 39);
            hall.placeHat(3, 34);
            due(5, () -> hall.removeHat(0));
            due("....DB...C", () -> Halls.line(hall, 3));
            due(2, () -> hall.offersTaken());
        });
        promise(5, "Returns the number of chairs that the hat covered.", () -> {
            for (int brim = 0; brim <= 2; brim++) {
                int size = 1 + 2 * brim;
                HatReservations hall = Halls.with(0, brim);
                hall.placeHat(0, 25);
                due(size, () -> hall.removeHat(0));
                due(0, () -> hall.coverSize(0));
            }
            HatReservations edge = Halls.with(0, 2, 1, 0);
            edge.placeHat(0, 39);
            due(true, () -> edge.contest(1, 37));
            due(2, () -> edge.removeHat(0));
            due(1, () -> edge.removeHat(1));
        });
        noSuchGuest(5, (hall, guest) -> hall.removeHat(guest));
        notPlaced(5, (hall, guest) -> hall.removeHat(guest));
    }

    private void touchHat() {
        promise(6, "Touches the hat of a guest, so that its idle time starts again at 0.", () -> {
            HatReservations hall = Halls.with(0, 0, 0, 0);
            hall.placeHat(0, 0);
            hall.placeHat(1, 1);
            hall.pass(60);
            hall.touchHat(0);
            due(0, () -> hall.idleMinutes(0));
            due(60, () -> hall.idleMinutes(1));
            hall.pass(1);
            due(1, () -> hall.idleMinutes(0));
        });
        promise(6, "Returns the idle time before the call, in minutes.", () -> {
            HatReservations hall = Halls.with(0, 0);
            hall.placeHat(0, 0);
            due(0, () -> hall.touchHat(0));
            hall.pass(1);
            due(1, () -> hall.touchHat(0));
            due(0, () -> hall.touchHat(0));
            hall.pass(60);
            hall.pass(60);
            due(120, () -> hall.touchHat(0));
        });
        noSuchGuest(6, (hall, guest) -> hall.touchHat(guest));
        notPlaced(6, (hall, guest) -> hall.touchHat(guest));
    }

    private void guestCount() {
        HatReservations hall = new HatReservations();
        for (int guests = 0; guests < 8; guests++) {
            int count = guests;
            due(count, () -> hall.guestCount());
            hall.addGuest(0, 0);
        }
        due(8, () -> hall.guestCount());
        due(STATE, () -> hall.addGuest(0, 0));
        due(8, () -> hall.guestCount());
        hall.undo();
        due(7, () -> hall.guestCount());
    }

    private void feathers() {
        HatReservations hall = Halls.with(0, 0, 9, 0, 0, 0, 9, 0);
        due(0, () -> hall.feathers(0));
        due(9, () -> hall.feathers(1));
        due(9, () -> hall.feathers(3));
        hall.giveFeather(2);
        due(1, () -> hall.feathers(2));
        hall.placeHat(1, 5);
        // two losses: one feather to lose, then none
        due(false, () -> hall.contest(2, 5));
        due(0, () -> hall.feathers(2));
        due(false, () -> hall.contest(2, 5));
        due(0, () -> hall.feathers(2));
        due(9, () -> hall.feathers(1));
    }

    private void brim() {
        HatReservations hall = Halls.with(9, 0, 0, 2, 5, 1);
        due(0, () -> hall.brim(0));
        due(2, () -> hall.brim(1));
        due(1, () -> hall.brim(2));
        // the brim is the hat's own, however few chairs it covers
        hall.placeHat(1, 0);
        due(2, () -> hall.brim(1));
    }

    private void isPlaced() {
        HatReservations hall = Halls.with(0, 0, 0, 0);
        due(false, () -> hall.isPlaced(0));
        hall.placeHat(0, 0);
        due(true, () -> hall.isPlaced(0));
        due(false, () -> hall.isPlaced(1));
        hall.removeHat(0);
        due(false, () -> hall.isPlaced(0));
    }

    private void hatChair() {
        HatReservations hall = Halls.with(0, 2, 0, 2);
        hall.placeHat(0, 0);
        hall.placeHat(1, 39);
        due(0, () -> hall.hatChair(0));
        due(39, () -> hall.hatChair(1));
    }

    private void coverSize() {
        HatReservations hall = Halls.with(0, 2, 0, 0, 1, 0);
        due(0, () -> hall.coverSize(0));
        hall.placeHat(0, 12);
        due(5, () -> hall.coverSize(0));
        hall.placeHat(1, 15);
        due(1, () -> hall.coverSize(1));
        hall.contest(2, 11);
        due(3, () -> hall.coverSize(0));
        hall.removeHat(0);
        due(0, () -> hall.coverSize(0));
    }

    private void idleMinutes() {
        HatReservations hall = Halls.with(0, 0);
        hall.pass(60);
        hall.placeHat(0, 0);
        due(0, () -> hall.idleMinutes(0));
        hall.pass(1);
        due(1, () -> hall.idleMinutes(0));
        hall.pass(60);
        due(61, () -> hall.idleMinutes(0));
    }
}
