import java.util.NoSuchElementException;

/** Promises 1 to 13: guests and hats. */
public final class GuestsTest {
    private static final Class<?> BOUNDS = IndexOutOfBoundsException.class;
    private static final Class<?> ARGUMENT = IllegalArgumentException.class;
    private static final Class<?> STATE = IllegalStateException.class;
    private static final Class<?> MISSING = NoSuchElementException.class;
    private static final Class<?> UNSUPPORTED = UnsupportedOperationException.class;

    private final Checks checks = new Checks();

    public static void main(String[] args) {
        GuestsTest test = new GuestsTest();
        test.newObject();
        test.addGuest();
        test.giveFeather();
        test.placeHat();
        test.placeHatRefused();
        test.removeHat();
        test.removeHatOffers();
        test.touchHat();
        test.guestQueries();
        test.hatQueries();
        test.checks.close("GuestsTest");
    }

    private void newObject() {
        checks.promise(1, "a new object");
        HatReservations hall = new HatReservations();
        checks.due(0, () -> hall.guestCount());
        checks.due(0, () -> hall.now());
        checks.due(0L, () -> hall.coveredMask());
        checks.due(0, () -> hall.sweptTotal());
        checks.due(0, () -> hall.lapsedTotal());
        checks.due(0, () -> hall.offersTaken());
        checks.due(0, () -> hall.contestsWon());
        checks.due(STATE, () -> hall.undo());
        checks.due(STATE, () -> hall.restore());
        checks.due(true, () -> hall.isConsistent());
        for (int chair = 0; chair < 40; chair++) {
            int number = chair;
            checks.due(0, () -> hall.coatCount(number));
        }
        HatReservations other = new HatReservations();
        other.addGuest(1, 1);
        checks.due(0, () -> hall.guestCount());
    }

    private void addGuest() {
        checks.promise(2, "addGuest");
        HatReservations hall = new HatReservations();
        int[][] bad = {{-1, 0}, {10, 0}, {0, -1}, {0, 3}, {Integer.MIN_VALUE, 1}, {1, Integer.MAX_VALUE}};
        for (int[] pair : bad) {
            checks.due(ARGUMENT, () -> hall.addGuest(pair[0], pair[1]));
        }
        checks.due(0, () -> hall.guestCount());
        int[][] good = {{0, 0}, {9, 2}, {5, 1}, {1, 0}, {2, 1}, {3, 2}, {8, 0}, {9, 1}};
        for (int index = 0; index < good.length; index++) {
            int guest = index;
            checks.due(guest, () -> hall.addGuest(good[guest][0], good[guest][1]));
            checks.due(guest + 1, () -> hall.guestCount());
            checks.due(good[guest][0], () -> hall.feathers(guest));
            checks.due(good[guest][1], () -> hall.brim(guest));
            checks.due(false, () -> hall.isPlaced(guest));
            checks.due(false, () -> hall.hasCoatLeft(guest));
        }
        checks.due(STATE, () -> hall.addGuest(0, 0));
        checks.due(ARGUMENT, () -> hall.addGuest(10, 0));
        checks.due(8, () -> hall.guestCount());
    }

    private void giveFeather() {
        checks.promise(3, "giveFeather");
        HatReservations hall = Halls.with(7, 0, 0, 0);
        checks.due(8, () -> hall.giveFeather(0));
        checks.due(9, () -> hall.giveFeather(0));
        checks.due(STATE, () -> hall.giveFeather(0));
        checks.due(9, () -> hall.feathers(0));
        checks.due(0, () -> hall.feathers(1));
        checks.due(BOUNDS, () -> hall.giveFeather(2));
        checks.due(BOUNDS, () -> hall.giveFeather(-1));
        checks.due(BOUNDS, () -> hall.giveFeather(8));
    }

    private void placeHat() {
        checks.promise(4, "placeHat");
        HatReservations hall = Halls.with(0, 2, 0, 2, 0, 2, 0, 1, 0, 0, 0, 2, 0, 2, 0, 2);
        checks.due(5, () -> hall.placeHat(0, 5));
        checks.due("...aaAaa..", () -> Halls.line(hall, 0));
        checks.due(3, () -> hall.placeHat(1, 9 + 10));
        checks.due(3, () -> hall.placeHat(2, 20));
        checks.due(0L, () -> hall.coveredMask() & (1L << 9 | 1L << 10 | 1L << 16 | 1L << 23));
        checks.due("Ccc.......", () -> Halls.line(hall, 2));
        checks.due(2, () -> hall.placeHat(3, 2));
        checks.due(1, () -> hall.placeHat(4, 8));
        checks.due(1, () -> hall.placeHat(5, 0));
        checks.due("FdDaaAaaE.", () -> Halls.line(hall, 0));
        checks.due(4, () -> hall.placeHat(6, 31));
        checks.due(5, () -> hall.placeHat(7, 36));
        checks.due("gGgghhHhh.", () -> Halls.line(hall, 3));
        checks.due(0, () -> hall.idleMinutes(7));
        checks.due(36, () -> hall.hatChair(7));
        coversNoFurtherChairs();
        stopsAtTheFirstCoveredChair();
    }

    private void coversNoFurtherChairs() {
        HatReservations hall = Halls.with(0, 0, 0, 2);
        hall.placeHat(0, 13);
        checks.due(3, () -> hall.placeHat(1, 14));
        checks.due("...ABbb...", () -> Halls.line(hall, 1));
        hall.removeHat(0);
        checks.due("....Bbb...", () -> Halls.line(hall, 1));
        checks.due(3, () -> hall.coverSize(1));
    }

    private void stopsAtTheFirstCoveredChair() {
        HatReservations hall = Halls.with(0, 0, 0, 2);
        hall.placeHat(0, 14);
        checks.due(3, () -> hall.placeHat(1, 15));
        checks.due(false, () -> hall.isCovered(13));
        HatReservations other = Halls.with(0, 0, 0, 2);
        other.placeHat(0, 16);
        checks.due(3, () -> other.placeHat(1, 15));
        checks.due(false, () -> other.isCovered(17));
    }

    private void placeHatRefused() {
        checks.promise(4, "placeHat");
        HatReservations hall = Halls.with(0, 1, 0, 0);
        hall.placeHat(0, 20);
        String before = Halls.state(hall);
        checks.due(BOUNDS, () -> hall.placeHat(2, 0));
        checks.due(BOUNDS, () -> hall.placeHat(-1, 0));
        checks.due(BOUNDS, () -> hall.placeHat(1, -1));
        checks.due(BOUNDS, () -> hall.placeHat(1, 40));
        checks.due(BOUNDS, () -> hall.placeHat(0, 40));
        checks.due(BOUNDS, () -> hall.placeHat(1, Integer.MIN_VALUE));
        checks.due(BOUNDS, () -> hall.placeHat(Integer.MAX_VALUE, 1));
        checks.due(STATE, () -> hall.placeHat(0, 30));
        checks.due(STATE, () -> hall.placeHat(0, 20));
        checks.due(UNSUPPORTED, () -> hall.placeHat(1, 20));
        checks.due(UNSUPPORTED, () -> hall.placeHat(1, 21));
        checks.due(before, () -> Halls.state(hall));
        checks.due(1, () -> hall.placeHat(1, 39));
    }

    private void removeHat() {
        checks.promise(5, "removeHat");
        HatReservations hall = Halls.with(0, 2, 0, 0);
        hall.placeHat(0, 25);
        checks.due(BOUNDS, () -> hall.removeHat(-1));
        checks.due(BOUNDS, () -> hall.removeHat(2));
        checks.due(MISSING, () -> hall.removeHat(1));
        checks.due(5, () -> hall.removeHat(0));
        checks.due(0L, () -> hall.coveredMask());
        checks.due(false, () -> hall.isPlaced(0));
        checks.due(MISSING, () -> hall.removeHat(0));
        hall.placeHat(1, 0);
        checks.due(1, () -> hall.removeHat(1));
    }

    private void removeHatOffers() {
        checks.promise(5, "removeHat");
        HatReservations hall = Halls.with(0, 2, 0, 1, 0, 0, 0, 0, 0, 0);
        hall.placeHat(0, 12);
        hall.leaveCoat(1, 12);
        hall.leaveCoat(2, 11);
        hall.leaveCoat(3, 13);
        hall.leaveCoat(4, 11);
        hall.pass(7);
        checks.due(5, () -> hall.removeHat(0));
        // chair 11 goes to 2, whose brim is 0; chair 12 to 1, who then covers 13; so 13 is not offered
        checks.due(".CBb......", () -> Halls.line(hall, 1));
        checks.due(false, () -> hall.isPlaced(3));
        checks.due(13, () -> hall.coatChair(3));
        checks.due(11, () -> hall.coatChair(4));
        checks.due(4, () -> hall.coatOwner(11, 0));
        checks.due(false, () -> hall.hasCoatLeft(1));
        checks.due(false, () -> hall.hasCoatLeft(2));
        checks.due(2, () -> hall.offersTaken());
        checks.due(0, () -> hall.lapsedTotal());
        checks.due(0, () -> hall.idleMinutes(1));
        hall.placeHat(3, 30);
        hall.placeHat(4, 31);
        checks.due(2, () -> hall.removeHat(1));
        checks.due(1, () -> hall.lapsedTotal());
        checks.due(false, () -> hall.hasCoatLeft(3));
        checks.due(11, () -> hall.coatChair(4));
        coatOfAPlacedHatLapses();
        ownCoatOnOwnChair();
    }

    private void coatOfAPlacedHatLapses() {
        HatReservations hall = Halls.with(0, 2, 0, 0, 0, 0);
        hall.placeHat(0, 32);
        hall.placeHat(1, 0);
        hall.leaveCoat(1, 30);
        hall.leaveCoat(2, 30);
        checks.due(5, () -> hall.removeHat(0));
        checks.due("C.........", () -> Halls.line(hall, 3));
        checks.due(1, () -> hall.lapsedTotal());
        checks.due(1, () -> hall.offersTaken());
        checks.due(0, () -> hall.coatCount(30));
    }

    /** A contest can put a hat over a coat of its own guest; the hat is off when the chair is offered. */
    private void ownCoatOnOwnChair() {
        HatReservations hall = Halls.with(0, 0, 5, 1);
        hall.placeHat(0, 5);
        hall.leaveCoat(1, 5);
        checks.due(true, () -> hall.contest(1, 5));
        checks.due(5, () -> hall.coatChair(1));
        checks.due(3, () -> hall.removeHat(1));
        checks.due("....bBb...", () -> Halls.line(hall, 0));
        checks.due(false, () -> hall.hasCoatLeft(1));
        checks.due(1, () -> hall.offersTaken());
    }

    private void touchHat() {
        checks.promise(6, "touchHat");
        HatReservations hall = Halls.with(0, 0, 0, 0);
        hall.placeHat(0, 0);
        checks.due(0, () -> hall.touchHat(0));
        hall.pass(60);
        hall.pass(1);
        checks.due(61, () -> hall.touchHat(0));
        checks.due(0, () -> hall.idleMinutes(0));
        hall.pass(2);
        checks.due(2, () -> hall.idleMinutes(0));
        checks.due(BOUNDS, () -> hall.touchHat(2));
        checks.due(BOUNDS, () -> hall.touchHat(-1));
        checks.due(MISSING, () -> hall.touchHat(1));
        checks.due(2, () -> hall.touchHat(0));
    }

    private void guestQueries() {
        HatReservations hall = Halls.with(4, 1, 9, 2);
        checks.promise(7, "guestCount");
        checks.due(2, () -> hall.guestCount());
        checks.promise(8, "feathers");
        checks.due(4, () -> hall.feathers(0));
        checks.due(9, () -> hall.feathers(1));
        checks.due(BOUNDS, () -> hall.feathers(2));
        checks.due(BOUNDS, () -> hall.feathers(-1));
        checks.promise(9, "brim");
        checks.due(1, () -> hall.brim(0));
        checks.due(2, () -> hall.brim(1));
        checks.due(BOUNDS, () -> hall.brim(2));
        checks.due(BOUNDS, () -> hall.brim(Integer.MIN_VALUE));
    }

    private void hatQueries() {
        HatReservations hall = Halls.with(4, 1, 9, 2);
        hall.placeHat(1, 39);
        hall.pass(5);
        checks.promise(10, "isPlaced");
        checks.due(false, () -> hall.isPlaced(0));
        checks.due(true, () -> hall.isPlaced(1));
        checks.due(BOUNDS, () -> hall.isPlaced(2));
        checks.due(BOUNDS, () -> hall.isPlaced(-1));
        checks.promise(11, "hatChair");
        checks.due(39, () -> hall.hatChair(1));
        checks.due(MISSING, () -> hall.hatChair(0));
        checks.due(BOUNDS, () -> hall.hatChair(2));
        checks.due(BOUNDS, () -> hall.hatChair(-1));
        checks.promise(12, "coverSize");
        checks.due(0, () -> hall.coverSize(0));
        checks.due(3, () -> hall.coverSize(1));
        checks.due(BOUNDS, () -> hall.coverSize(2));
        checks.due(BOUNDS, () -> hall.coverSize(-1));
        checks.promise(13, "idleMinutes");
        checks.due(5, () -> hall.idleMinutes(1));
        checks.due(MISSING, () -> hall.idleMinutes(0));
        checks.due(BOUNDS, () -> hall.idleMinutes(2));
        checks.due(BOUNDS, () -> hall.idleMinutes(-1));
        hall.placeHat(0, 0);
        checks.due(0, () -> hall.idleMinutes(0));
        checks.due(5, () -> hall.idleMinutes(1));
    }
}
