/** Promises 50 to 52: undo and snapshot. */
public final class UndoTest {
    private static final Class<?> STATE = IllegalStateException.class;

    private final Checks checks = new Checks();

    public static void main(String[] args) {
        UndoTest test = new UndoTest();
        test.undoEachChange();
        test.undoEightChanges();
        test.undoAndGoOn();
        test.refusedCallsAreNoChanges();
        test.failedRunsCostNoChange();
        test.queriesAreNoChanges();
        test.undoOfRuns();
        test.saveAndRestore();
        test.restoreForgetsChanges();
        test.restoreOfGuestsAndCoats();
        test.checks.close("UndoTest");
    }

    private void undoEachChange() {
        checks.promise(50, "undo");
        HatReservations hall = Halls.with(3, 1, 9, 0, 1, 0);
        hall.placeHat(0, 15);
        hall.leaveCoat(2, 16);
        Runnable[] changes = {
            () -> hall.addGuest(1, 1), () -> hall.giveFeather(0), () -> hall.placeHat(1, 0), () -> hall.removeHat(0),
            () -> hall.touchHat(0), () -> hall.leaveCoat(1, 14), () -> hall.takeCoat(2), () -> hall.contest(1, 16),
            () -> hall.contest(2, 16), () -> hall.pass(60), () -> hall.sweep(1), () -> Halls.run(hall, "pass 1;lift 0"),
        };
        hall.pass(2);
        for (Runnable change : changes) {
            String before = Halls.state(hall);
            change.run();
            checks.due(6, () -> hall.undo());
            checks.due(before, () -> Halls.state(hall));
        }
        changeWithoutDifference();
    }

    private void changeWithoutDifference() {
        HatReservations hall = Halls.with(0, 0, 0, 0);
        hall.placeHat(0, 0);
        hall.touchHat(0);
        hall.sweep(1);
        hall.contest(1, 0);
        checks.due(5, () -> hall.undo());
        checks.due(4, () -> hall.undo());
        checks.due(3, () -> hall.undo());
        checks.due(true, () -> hall.isPlaced(0));
        checks.due(2, () -> hall.undo());
        checks.due(false, () -> hall.isPlaced(0));
    }

    private void undoEightChanges() {
        checks.promise(50, "undo");
        HatReservations hall = new HatReservations();
        checks.due(STATE, () -> hall.undo());
        for (int change = 1; change <= 20; change++) {
            hall.pass(change);
        }
        for (int left = 7; left >= 0; left--) {
            int due = left;
            checks.due(due, () -> hall.undo());
            checks.due((12 + due) * (13 + due) / 2, () -> hall.now());
        }
        checks.due(STATE, () -> hall.undo());
        checks.due(78, () -> hall.now());
        hall.pass(1);
        checks.due(0, () -> hall.undo());
        checks.due(STATE, () -> hall.undo());
    }

    private void undoAndGoOn() {
        checks.promise(50, "undo");
        HatReservations hall = new HatReservations();
        for (int change = 0; change < 9; change++) {
            hall.pass(10);
        }
        checks.due(7, () -> hall.undo());
        hall.pass(1);
        checks.due(81, () -> hall.now());
        checks.due(7, () -> hall.undo());
        checks.due(80, () -> hall.now());
        checks.due(6, () -> hall.undo());
        checks.due(5, () -> hall.undo());
        checks.due(60, () -> hall.now());
        hall.pass(2);
        checks.due(5, () -> hall.undo());
        for (int left = 4; left >= 0; left--) {
            int due = left;
            checks.due(due, () -> hall.undo());
            checks.due(10 + 10 * due, () -> hall.now());
        }
        checks.due(STATE, () -> hall.undo());
    }

    private void refusedCallsAreNoChanges() {
        checks.promise(50, "undo");
        HatReservations hall = Halls.with(9, 0);
        checks.due(IllegalArgumentException.class, () -> hall.addGuest(10, 0));
        checks.due(STATE, () -> hall.giveFeather(0));
        checks.due(IndexOutOfBoundsException.class, () -> hall.placeHat(0, 40));
        checks.due(java.util.NoSuchElementException.class, () -> hall.removeHat(0));
        checks.due(java.util.NoSuchElementException.class, () -> hall.touchHat(0));
        checks.due(UnsupportedOperationException.class, () -> hall.leaveCoat(0, 0));
        checks.due(java.util.NoSuchElementException.class, () -> hall.takeCoat(0));
        checks.due(java.util.NoSuchElementException.class, () -> hall.contest(0, 0));
        checks.due(IllegalArgumentException.class, () -> hall.pass(0));
        checks.due(IllegalArgumentException.class, () -> hall.sweep(0));
        checks.due(IllegalArgumentException.class, () -> hall.run());
        checks.due(STATE, () -> Halls.run(hall, "lift 0"));
        checks.due(STATE, () -> hall.restore());
        checks.due(0, () -> hall.undo());
        checks.due(0, () -> hall.guestCount());
    }

    private void failedRunsCostNoChange() {
        checks.promise(50, "undo");
        HatReservations hall = new HatReservations();
        for (int change = 0; change < 8; change++) {
            hall.pass(10);
        }
        checks.due(STATE, () -> Halls.run(hall, "pass 1;lift 0"));
        checks.due(80, () -> hall.now());
        for (int left = 7; left >= 0; left--) {
            int due = left;
            checks.due(due, () -> hall.undo());
            checks.due(10 * due, () -> hall.now());
        }
        checks.due(STATE, () -> hall.undo());
    }

    private void queriesAreNoChanges() {
        checks.promise(50, "undo");
        HatReservations hall = Halls.with(9, 0);
        Halls.state(hall);
        hall.isConsistent();
        hall.describeRow(0);
        hall.append('a');
        hall.save();
        hall.coveredShare();
        hall.wouldWin(0, 0);
        checks.due(0, () -> hall.undo());
    }

    private void undoOfRuns() {
        checks.promise(50, "undo");
        HatReservations hall = Halls.with(9, 0);
        checks.due(3, () -> Halls.run(hall, "pass 1;hat 0 5;guest 11"));
        checks.due(2, () -> hall.guestCount());
        checks.due(1, () -> hall.undo());
        checks.due(1, () -> hall.guestCount());
        checks.due(0, () -> hall.now());
        checks.due(false, () -> hall.isPlaced(0));
        checks.due(1, () -> hall.addGuest(0, 0));
        checks.due(false, () -> hall.isPlaced(1));
    }

    private void saveAndRestore() {
        HatReservations hall = Halls.with(3, 1, 9, 0, 0, 0);
        checks.promise(52, "restore");
        checks.due(STATE, () -> hall.restore());
        checks.promise(51, "save");
        checks.due(0, () -> hall.save());
        hall.placeHat(0, 15);
        hall.placeHat(2, 25);
        hall.leaveCoat(1, 15);
        hall.leaveCoat(2, 15);
        hall.pass(9);
        checks.due(2, () -> hall.save());
        String saved = Halls.state(hall);
        hall.removeHat(0);
        hall.sweep(5);
        hall.contest(2, 15);
        hall.addGuest(0, 0);
        hall.giveFeather(0);
        String later = Halls.state(hall);
        checks.promise(52, "restore");
        checks.due(false, () -> saved.equals(later));
        checks.due(2, () -> hall.restore());
        checks.due(saved, () -> Halls.state(hall));
        hall.removeHat(0);
        hall.pass(1);
        checks.due(2, () -> hall.restore());
        checks.due(saved, () -> Halls.state(hall));
        checks.due(1, () -> hall.nextClaimantByTime(15));
        hall.removeHat(2);
        checks.promise(51, "save");
        checks.due(1, () -> hall.save());
        hall.undo();
        checks.promise(52, "restore");
        checks.due(1, () -> hall.restore());
        checks.due(false, () -> hall.isPlaced(2));
    }

    private void restoreForgetsChanges() {
        checks.promise(52, "restore");
        HatReservations hall = new HatReservations();
        hall.save();
        for (int change = 0; change < 12; change++) {
            hall.pass(1);
        }
        checks.due(0, () -> hall.restore());
        checks.due(0, () -> hall.now());
        checks.due(STATE, () -> hall.undo());
        hall.pass(3);
        hall.pass(4);
        checks.due(1, () -> hall.undo());
        checks.due(3, () -> hall.now());
        checks.due(0, () -> hall.restore());
        checks.due(STATE, () -> hall.undo());
        checks.due(0, () -> hall.restore());
    }

    private void restoreOfGuestsAndCoats() {
        HatReservations hall = Halls.with(0, 0, 5, 2);
        checks.promise(52, "restore");
        hall.save();
        hall.undo();
        hall.addGuest(6, 1);
        checks.due(0, () -> hall.restore());
        checks.due(5, () -> hall.feathers(1));
        checks.due(2, () -> hall.brim(1));
        hall.addGuest(0, 0);
        hall.placeHat(0, 39);
        hall.leaveCoat(1, 39);
        hall.leaveCoat(2, 39);
        hall.save();
        hall.takeCoat(1);
        hall.leaveCoat(1, 39);
        checks.due(2, () -> hall.nextClaimantByTime(39));
        checks.due(1, () -> hall.restore());
        checks.due(1, () -> hall.nextClaimant(39));
        checks.due(1, () -> hall.nextClaimantByTime(39));
        checks.promise(50, "undo");
        hall.takeCoat(1);
        hall.leaveCoat(1, 39);
        hall.undo();
        hall.undo();
        checks.due(1, () -> hall.nextClaimant(39));
        checks.due(1, () -> hall.nextClaimantByTime(39));
        checks.due(true, () -> hall.isConsistent());
    }
}
