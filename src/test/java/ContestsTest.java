import java.util.NoSuchElementException;

/** Promises 22 and 23: contests. */
public final class ContestsTest {
    private static final Class<?> BOUNDS = IndexOutOfBoundsException.class;
    private static final Class<?> STATE = IllegalStateException.class;
    private static final Class<?> MISSING = NoSuchElementException.class;

    private final Checks checks = new Checks();

    public static void main(String[] args) {
        ContestsTest test = new ContestsTest();
        test.refused();
        test.lost();
        test.wonOnTheHat();
        test.wonBesideTheHat();
        test.wonOnTheOutermostChair();
        test.wonOnANarrowedHat();
        test.offersAfterwards();
        test.lapsesOfTheChallenger();
        test.wouldWin();
        test.checks.close("ContestsTest");
    }

    private void refused() {
        checks.promise(22, "contest");
        HatReservations hall = Halls.with(3, 1, 5, 0, 9, 0);
        hall.placeHat(0, 10);
        hall.placeHat(1, 30);
        String before = Halls.state(hall);
        checks.due(BOUNDS, () -> hall.contest(3, 10));
        checks.due(BOUNDS, () -> hall.contest(-1, 10));
        checks.due(BOUNDS, () -> hall.contest(2, 40));
        checks.due(BOUNDS, () -> hall.contest(2, -1));
        checks.due(MISSING, () -> hall.contest(2, 12));
        checks.due(MISSING, () -> hall.contest(1, 12));
        checks.due(STATE, () -> hall.contest(1, 10));
        checks.due(STATE, () -> hall.contest(0, 11));
        checks.due(STATE, () -> hall.contest(0, 30));
        checks.due(before, () -> Halls.state(hall));
        checks.due(true, () -> hall.contest(2, 10));
    }

    private void lost() {
        checks.promise(22, "contest");
        HatReservations hall = Halls.with(3, 1, 3, 0, 1, 0, 0, 0);
        hall.placeHat(0, 10);
        checks.due(false, () -> hall.contest(1, 11));
        checks.due(2, () -> hall.feathers(1));
        checks.due(false, () -> hall.contest(2, 11));
        checks.due(0, () -> hall.feathers(2));
        checks.due(false, () -> hall.contest(2, 11));
        checks.due(0, () -> hall.feathers(2));
        checks.due(false, () -> hall.contest(3, 10));
        checks.due(0, () -> hall.feathers(3));
        checks.due(3, () -> hall.feathers(0));
        checks.due("Aa........", () -> Halls.line(hall, 1));
        checks.due(false, () -> hall.isPlaced(1));
        checks.promise(39, "contestsWon");
        checks.due(0, () -> hall.contestsWon());
    }

    private void wonOnTheHat() {
        checks.promise(22, "contest");
        HatReservations hall = Halls.with(3, 2, 8, 1);
        hall.placeHat(0, 15);
        hall.pass(9);
        checks.due(true, () -> hall.contest(1, 15));
        checks.due(5, () -> hall.feathers(1));
        checks.due(3, () -> hall.feathers(0));
        checks.due(false, () -> hall.isPlaced(0));
        checks.due(0, () -> hall.coverSize(0));
        checks.due("....bBb...", () -> Halls.line(hall, 1));
        checks.due(0, () -> hall.idleMinutes(1));
        checks.due(15, () -> hall.hatChair(1));
        checks.promise(39, "contestsWon");
        checks.due(1, () -> hall.contestsWon());
        checks.promise(36, "sweptTotal");
        checks.due(0, () -> hall.sweptTotal());
    }

    private void wonBesideTheHat() {
        checks.promise(22, "contest");
        HatReservations hall = Halls.with(0, 2, 1, 2, 1, 2);
        hall.placeHat(0, 15);
        hall.pass(3);
        checks.due(true, () -> hall.contest(1, 16));
        checks.due("...aaABbb.", () -> Halls.line(hall, 1));
        checks.due(3, () -> hall.coverSize(0));
        checks.due(3, () -> hall.idleMinutes(0));
        checks.due(true, () -> hall.contest(2, 14));
        checks.due("..ccCABbb.", () -> Halls.line(hall, 1));
        checks.due(1, () -> hall.coverSize(0));
        checks.due(true, () -> hall.isConsistent());
    }

    private void wonOnTheOutermostChair() {
        checks.promise(22, "contest");
        HatReservations hall = Halls.with(0, 2, 1, 2, 1, 0);
        hall.placeHat(0, 2);
        checks.due(true, () -> hall.contest(1, 4));
        checks.due("aaAaBbb...", () -> Halls.line(hall, 0));
        checks.due(true, () -> hall.contest(2, 0));
        checks.due("CaAaBbb...", () -> Halls.line(hall, 0));
        checks.due(3, () -> hall.coverSize(0));
        checks.due(7, () -> hall.coveredCount());
    }

    private void wonOnANarrowedHat() {
        checks.promise(22, "contest");
        HatReservations hall = Halls.with(0, 2, 2, 0, 9, 2);
        hall.placeHat(0, 35);
        checks.due(true, () -> hall.contest(1, 36));
        checks.due("...aaAB...", () -> Halls.line(hall, 3));
        checks.due(1, () -> hall.removeHat(1));
        checks.due("...aaA....", () -> Halls.line(hall, 3));
        checks.due(true, () -> hall.contest(2, 35));
        checks.due("...ccCcc..", () -> Halls.line(hall, 3));
        checks.due(0, () -> hall.coverSize(0));
        checks.due(9, () -> hall.feathers(2));
    }

    private void offersAfterwards() {
        checks.promise(22, "contest");
        HatReservations hall = Halls.with(2, 2, 5, 0, 0, 1, 0, 0, 0, 2);
        hall.placeHat(0, 25);
        hall.leaveCoat(2, 23);
        hall.leaveCoat(3, 24);
        hall.leaveCoat(4, 27);
        hall.leaveCoat(1, 25);
        checks.due(true, () -> hall.contest(1, 25));
        // 23 goes to 2, who covers 24 too; 25 is the challenger's; 27 goes to 4
        checks.due("..cCcBeEee", () -> Halls.line(hall, 2));
        checks.due(24, () -> hall.coatChair(3));
        checks.due(25, () -> hall.coatChair(1));
        checks.due(2, () -> hall.offersTaken());
        checks.due(0, () -> hall.lapsedTotal());
        checks.due(3, () -> hall.feathers(1));
        checks.due(true, () -> hall.isConsistent());
    }

    private void lapsesOfTheChallenger() {
        checks.promise(22, "contest");
        HatReservations hall = Halls.with(2, 2, 5, 0, 0, 0);
        hall.placeHat(0, 25);
        hall.leaveCoat(1, 27);
        hall.leaveCoat(2, 27);
        checks.due(true, () -> hall.contest(1, 26));
        checks.due("...aaABC..", () -> Halls.line(hall, 2));
        checks.due(false, () -> hall.hasCoatLeft(1));
        checks.due(1, () -> hall.lapsedTotal());
        checks.due(1, () -> hall.offersTaken());
        defenderTakesAnotherChair();
    }

    private void defenderTakesAnotherChair() {
        HatReservations hall = Halls.with(2, 1, 5, 0, 0, 0, 1, 0);
        hall.placeHat(0, 25);
        hall.placeHat(2, 5);
        hall.leaveCoat(0, 5);
        hall.leaveCoat(3, 26);
        checks.due(true, () -> hall.contest(1, 25));
        checks.due(".....BD...", () -> Halls.line(hall, 2));
        checks.due(5, () -> hall.coatChair(0));
        checks.due(1, () -> hall.removeHat(2));
        checks.due("....aAa...", () -> Halls.line(hall, 0));
    }

    private void wouldWin() {
        checks.promise(23, "wouldWin");
        HatReservations hall = Halls.with(3, 1, 3, 0, 4, 0, 9, 0);
        hall.placeHat(0, 10);
        hall.placeHat(3, 20);
        String before = Halls.state(hall);
        checks.due(false, () -> hall.wouldWin(1, 10));
        checks.due(true, () -> hall.wouldWin(2, 10));
        checks.due(true, () -> hall.wouldWin(2, 11));
        checks.due(false, () -> hall.wouldWin(2, 12));
        checks.due(false, () -> hall.wouldWin(2, 20));
        checks.due(false, () -> hall.wouldWin(3, 10));
        checks.due(false, () -> hall.wouldWin(3, 20));
        checks.due(false, () -> hall.wouldWin(3, 0));
        checks.due(BOUNDS, () -> hall.wouldWin(4, 10));
        checks.due(BOUNDS, () -> hall.wouldWin(-1, 10));
        checks.due(BOUNDS, () -> hall.wouldWin(2, 40));
        checks.due(BOUNDS, () -> hall.wouldWin(2, -1));
        checks.due(before, () -> Halls.state(hall));
        hall.giveFeather(1);
        checks.due(true, () -> hall.wouldWin(1, 10));
    }
}
