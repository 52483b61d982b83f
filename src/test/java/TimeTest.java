import java.util.NoSuchElementException;

/** Promises 24 to 27: time and sweeping. */
public final class TimeTest {
    private static final Class<?> ARGUMENT = IllegalArgumentException.class;
    private static final Class<?> MISSING = NoSuchElementException.class;

    private final Checks checks = new Checks();

    public static void main(String[] args) {
        TimeTest test = new TimeTest();
        test.passAndNow();
        test.sweepLimits();
        test.sweepIdleHats();
        test.sweepOffersAllChairs();
        test.idlestGuest();
        test.checks.close("TimeTest");
    }

    private void passAndNow() {
        HatReservations hall = new HatReservations();
        checks.promise(26, "now");
        checks.due(0, () -> hall.now());
        checks.promise(24, "pass");
        checks.due(1, () -> hall.pass(1));
        checks.due(61, () -> hall.pass(60));
        checks.due(ARGUMENT, () -> hall.pass(0));
        checks.due(ARGUMENT, () -> hall.pass(61));
        checks.due(ARGUMENT, () -> hall.pass(-1));
        checks.due(ARGUMENT, () -> hall.pass(Integer.MIN_VALUE));
        checks.due(ARGUMENT, () -> hall.pass(Integer.MAX_VALUE));
        checks.promise(26, "now");
        checks.due(61, () -> hall.now());
        checks.promise(24, "pass");
        checks.due(63, () -> hall.pass(2));
    }

    private void sweepLimits() {
        checks.promise(25, "sweep");
        HatReservations hall = Halls.with(0, 0);
        checks.due(ARGUMENT, () -> hall.sweep(0));
        checks.due(ARGUMENT, () -> hall.sweep(241));
        checks.due(ARGUMENT, () -> hall.sweep(-1));
        checks.due(ARGUMENT, () -> hall.sweep(Integer.MIN_VALUE));
        checks.due(0, () -> hall.sweep(1));
        hall.placeHat(0, 4);
        checks.due(0, () -> hall.sweep(1));
        for (int quarter = 0; quarter < 4; quarter++) {
            checks.due(0, () -> hall.sweep(240));
            hall.pass(60);
        }
        checks.due(1, () -> hall.sweep(240));
        checks.due(0, () -> hall.sweep(240));
    }

    private void sweepIdleHats() {
        checks.promise(25, "sweep");
        HatReservations hall = Halls.with(0, 2, 0, 1, 0, 0, 0, 0);
        hall.placeHat(0, 5);
        hall.placeHat(1, 15);
        hall.pass(4);
        hall.placeHat(2, 25);
        hall.touchHat(1);
        hall.pass(6);
        checks.due(0, () -> hall.sweep(11));
        checks.due(1, () -> hall.sweep(10));
        checks.due(false, () -> hall.isPlaced(0));
        checks.due(4, () -> hall.coveredCount());
        checks.due(0, () -> hall.sweep(7));
        checks.due(2, () -> hall.sweep(6));
        checks.due(0, () -> hall.coveredCount());
        checks.promise(36, "sweptTotal");
        checks.due(3, () -> hall.sweptTotal());
    }

    /** All idle hats are off before the first chair is offered. */
    private void sweepOffersAllChairs() {
        checks.promise(25, "sweep");
        HatReservations hall = Halls.with(0, 1, 0, 0, 0, 0, 0, 2);
        hall.placeHat(0, 38);
        hall.placeHat(1, 0);
        hall.leaveCoat(0, 0);
        hall.leaveCoat(1, 39);
        hall.leaveCoat(2, 39);
        hall.leaveCoat(3, 38);
        hall.pass(30);
        checks.due(2, () -> hall.sweep(30));
        // 0 goes to the guest 0, 38 to the guest 3, who covers 39 too
        checks.due("Aa........", () -> Halls.line(hall, 0));
        checks.due("......ddDd", () -> Halls.line(hall, 3));
        checks.due(2, () -> hall.coatCount(39));
        checks.due(2, () -> hall.offersTaken());
        checks.due(0, () -> hall.lapsedTotal());
        checks.due(0, () -> hall.idleMinutes(0));
        checks.due(0, () -> hall.sweep(1));
        checks.due(2, () -> hall.sweptTotal());
        checks.due(true, () -> hall.isConsistent());
    }

    private void idlestGuest() {
        checks.promise(27, "idlestGuest");
        HatReservations hall = Halls.with(0, 0, 0, 0, 0, 0);
        checks.due(MISSING, () -> hall.idlestGuest());
        hall.placeHat(2, 0);
        checks.due(2, () -> hall.idlestGuest());
        hall.placeHat(1, 1);
        checks.due(1, () -> hall.idlestGuest());
        hall.pass(1);
        hall.placeHat(0, 2);
        checks.due(1, () -> hall.idlestGuest());
        hall.touchHat(1);
        checks.due(2, () -> hall.idlestGuest());
        hall.touchHat(2);
        checks.due(0, () -> hall.idlestGuest());
        hall.removeHat(0);
        hall.removeHat(1);
        hall.removeHat(2);
        checks.due(MISSING, () -> hall.idlestGuest());
    }
}
