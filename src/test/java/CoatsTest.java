import java.util.NoSuchElementException;

/** Promises 14 to 21: coats. */
public final class CoatsTest {
    private static final Class<?> BOUNDS = IndexOutOfBoundsException.class;
    private static final Class<?> STATE = IllegalStateException.class;
    private static final Class<?> MISSING = NoSuchElementException.class;
    private static final Class<?> UNSUPPORTED = UnsupportedOperationException.class;

    private final Checks checks = new Checks();

    public static void main(String[] args) {
        CoatsTest test = new CoatsTest();
        test.leaveCoat();
        test.leaveCoatRefused();
        test.takeCoat();
        test.coatQueries();
        test.chairQueries();
        test.claimants();
        test.claimantsOfOneMinute();
        test.coatsOfGuestZero();
        test.threeCoats();
        test.checks.close("CoatsTest");
    }

    private void leaveCoat() {
        checks.promise(14, "leaveCoat");
        HatReservations hall = Halls.with(0, 1, 0, 0, 0, 0, 0, 0, 0, 0);
        hall.placeHat(0, 21);
        hall.placeHat(4, 29);
        checks.due(0, () -> hall.leaveCoat(3, 20));
        checks.due(1, () -> hall.leaveCoat(1, 20));
        checks.due(2, () -> hall.leaveCoat(4, 20));
        checks.due(0, () -> hall.leaveCoat(0, 29));
        checks.due(0, () -> hall.leaveCoat(2, 22));
        checks.due(3, () -> hall.coatOwner(20, 0));
        checks.due(1, () -> hall.coatOwner(20, 1));
        checks.due(4, () -> hall.coatOwner(20, 2));
        checks.due(20, () -> hall.takeCoat(3));
        checks.due(2, () -> hall.leaveCoat(3, 20));
        checks.due(3, () -> hall.coatOwner(20, 2));
        checks.due(1, () -> hall.coatOwner(20, 0));
    }

    private void leaveCoatRefused() {
        checks.promise(14, "leaveCoat");
        HatReservations hall = Halls.with(0, 1, 0, 0, 0, 0, 0, 0, 0, 0);
        hall.placeHat(0, 21);
        hall.leaveCoat(1, 21);
        checks.due(BOUNDS, () -> hall.leaveCoat(5, 21));
        checks.due(BOUNDS, () -> hall.leaveCoat(-1, 21));
        checks.due(BOUNDS, () -> hall.leaveCoat(2, 40));
        checks.due(BOUNDS, () -> hall.leaveCoat(2, -1));
        checks.due(BOUNDS, () -> hall.leaveCoat(1, 40));
        checks.due(STATE, () -> hall.leaveCoat(1, 21));
        checks.due(STATE, () -> hall.leaveCoat(1, 0));
        checks.due(UNSUPPORTED, () -> hall.leaveCoat(2, 19));
        checks.due(UNSUPPORTED, () -> hall.leaveCoat(2, 23));
        checks.due(UNSUPPORTED, () -> hall.leaveCoat(0, 21));
        checks.due(UNSUPPORTED, () -> hall.leaveCoat(0, 20));
        checks.due(1, () -> hall.leaveCoat(2, 21));
        checks.due(2, () -> hall.leaveCoat(3, 21));
        checks.due(UNSUPPORTED, () -> hall.leaveCoat(4, 21));
        checks.due(false, () -> hall.hasCoatLeft(4));
        checks.due(3, () -> hall.coatCount(21));
        checks.due(0, () -> hall.leaveCoat(4, 22));
    }

    private void takeCoat() {
        checks.promise(15, "takeCoat");
        HatReservations hall = Halls.with(0, 0, 0, 0, 0, 0, 0, 0);
        hall.placeHat(0, 39);
        hall.leaveCoat(3, 39);
        hall.leaveCoat(2, 39);
        hall.leaveCoat(1, 39);
        checks.due(BOUNDS, () -> hall.takeCoat(4));
        checks.due(BOUNDS, () -> hall.takeCoat(-1));
        checks.due(MISSING, () -> hall.takeCoat(0));
        checks.due(39, () -> hall.takeCoat(2));
        checks.due(MISSING, () -> hall.takeCoat(2));
        checks.due(2, () -> hall.coatCount(39));
        checks.due(3, () -> hall.coatOwner(39, 0));
        checks.due(1, () -> hall.coatOwner(39, 1));
        checks.due(39, () -> hall.takeCoat(3));
        checks.due(1, () -> hall.coatOwner(39, 0));
        checks.due(39, () -> hall.takeCoat(1));
        checks.due(0, () -> hall.coatCount(39));
        checks.due(0, () -> hall.lapsedTotal());
    }

    private void coatQueries() {
        HatReservations hall = Halls.with(0, 0, 0, 0);
        hall.placeHat(0, 17);
        hall.leaveCoat(1, 17);
        checks.promise(16, "hasCoatLeft");
        checks.due(false, () -> hall.hasCoatLeft(0));
        checks.due(true, () -> hall.hasCoatLeft(1));
        checks.due(BOUNDS, () -> hall.hasCoatLeft(2));
        checks.due(BOUNDS, () -> hall.hasCoatLeft(-1));
        checks.promise(17, "coatChair");
        checks.due(17, () -> hall.coatChair(1));
        checks.due(MISSING, () -> hall.coatChair(0));
        checks.due(BOUNDS, () -> hall.coatChair(2));
        checks.due(BOUNDS, () -> hall.coatChair(-1));
        hall.takeCoat(1);
        checks.due(MISSING, () -> hall.coatChair(1));
        checks.promise(16, "hasCoatLeft");
        checks.due(false, () -> hall.hasCoatLeft(1));
    }

    private void chairQueries() {
        HatReservations hall = Halls.with(0, 1, 0, 0, 0, 0);
        hall.placeHat(0, 17);
        hall.leaveCoat(2, 18);
        hall.leaveCoat(1, 18);
        checks.promise(18, "coatCount");
        checks.due(2, () -> hall.coatCount(18));
        checks.due(0, () -> hall.coatCount(17));
        checks.due(0, () -> hall.coatCount(0));
        checks.due(0, () -> hall.coatCount(39));
        checks.due(BOUNDS, () -> hall.coatCount(40));
        checks.due(BOUNDS, () -> hall.coatCount(-1));
        checks.promise(19, "coatOwner");
        checks.due(2, () -> hall.coatOwner(18, 0));
        checks.due(1, () -> hall.coatOwner(18, 1));
        checks.due(MISSING, () -> hall.coatOwner(18, 2));
        checks.due(MISSING, () -> hall.coatOwner(18, 3));
        checks.due(MISSING, () -> hall.coatOwner(18, -1));
        checks.due(MISSING, () -> hall.coatOwner(18, Integer.MAX_VALUE));
        checks.due(MISSING, () -> hall.coatOwner(18, Integer.MIN_VALUE));
        checks.due(MISSING, () -> hall.coatOwner(17, 0));
        checks.due(BOUNDS, () -> hall.coatOwner(40, 0));
        checks.due(BOUNDS, () -> hall.coatOwner(-1, -1));
    }

    private void bothClaimants(HatReservations hall, int chair, Object want) {
        checks.promise(20, "nextClaimant");
        checks.due(want, () -> hall.nextClaimant(chair));
        checks.promise(21, "nextClaimantByTime");
        checks.due(want, () -> hall.nextClaimantByTime(chair));
    }

    private void claimants() {
        HatReservations hall = Halls.with(0, 1, 0, 0, 0, 0, 0, 0);
        hall.placeHat(0, 5);
        bothClaimants(hall, 5, MISSING);
        bothClaimants(hall, 7, MISSING);
        bothClaimants(hall, 40, BOUNDS);
        bothClaimants(hall, -1, BOUNDS);
        hall.leaveCoat(3, 5);
        hall.pass(1);
        hall.leaveCoat(1, 5);
        hall.pass(1);
        hall.leaveCoat(2, 5);
        bothClaimants(hall, 5, 3);
        hall.placeHat(3, 30);
        bothClaimants(hall, 5, 1);
        hall.placeHat(1, 31);
        bothClaimants(hall, 5, 2);
        hall.removeHat(3);
        bothClaimants(hall, 5, 3);
        hall.takeCoat(3);
        bothClaimants(hall, 5, 2);
        hall.placeHat(2, 32);
        bothClaimants(hall, 5, MISSING);
        bothClaimants(hall, 4, MISSING);
    }

    private void claimantsOfOneMinute() {
        HatReservations hall = Halls.with(0, 1, 0, 0, 0, 0, 0, 0, 0, 0);
        hall.placeHat(0, 5);
        hall.leaveCoat(2, 5);
        hall.leaveCoat(3, 5);
        hall.leaveCoat(1, 5);
        hall.leaveCoat(4, 4);
        bothClaimants(hall, 5, 2);
        hall.takeCoat(2);
        bothClaimants(hall, 5, 3);
        hall.leaveCoat(2, 5);
        bothClaimants(hall, 5, 3);
        hall.takeCoat(3);
        bothClaimants(hall, 5, 1);
        hall.undo();
        hall.takeCoat(1);
        hall.takeCoat(3);
        hall.leaveCoat(1, 5);
        bothClaimants(hall, 5, 2);
    }

    private void coatsOfGuestZero() {
        HatReservations hall = Halls.with(0, 0, 0, 0, 0, 0, 0, 0);
        hall.placeHat(3, 10);
        hall.leaveCoat(1, 10);
        hall.leaveCoat(0, 10);
        bothClaimants(hall, 10, 1);
        checks.promise(18, "coatCount");
        checks.due(2, () -> hall.coatCount(10));
        checks.promise(14, "leaveCoat");
        checks.due(2, () -> hall.leaveCoat(2, 10));
        checks.promise(15, "takeCoat");
        checks.due(10, () -> hall.takeCoat(1));
        checks.promise(19, "coatOwner");
        checks.due(0, () -> hall.coatOwner(10, 0));
        checks.due(2, () -> hall.coatOwner(10, 1));
        checks.due(MISSING, () -> hall.coatOwner(10, 2));
        bothClaimants(hall, 10, 0);
        checks.promise(5, "removeHat");
        checks.due(1, () -> hall.removeHat(3));
        checks.due("A.........", () -> Halls.line(hall, 1));
        checks.due(1, () -> hall.coatCount(10));
    }

    private void threeCoats() {
        checks.promise(37, "lapsedTotal");
        HatReservations hall = Halls.with(0, 0, 0, 0, 0, 0, 0, 0);
        hall.placeHat(3, 10);
        hall.leaveCoat(0, 10);
        hall.leaveCoat(1, 10);
        hall.leaveCoat(2, 10);
        hall.placeHat(0, 0);
        hall.placeHat(1, 1);
        String before = Halls.state(hall);
        hall.removeHat(3);
        checks.due("C.........", () -> Halls.line(hall, 1));
        checks.due(2, () -> hall.lapsedTotal());
        checks.due(0, () -> hall.coatCount(10));
        hall.undo();
        checks.due(before, () -> Halls.state(hall));
        checks.due(0, () -> hall.lapsedTotal());
        hall.placeHat(2, 2);
        hall.removeHat(3);
        checks.due("..........", () -> Halls.line(hall, 1));
        checks.due(3, () -> hall.lapsedTotal());
        checks.due(0, () -> hall.coatCount(10));
        checks.due(true, () -> hall.isConsistent());
    }
}
