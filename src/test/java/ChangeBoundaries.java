import java.util.function.Function;
import java.util.function.Supplier;

/** The boundary cases of the terms about changes and exceptions, and of the promises 50 to 52. */
final class ChangeBoundaries extends Boundaries {
    ChangeBoundaries(Checks checks) {
        super(checks);
    }

    @Override
    void all() {
        run("What it is", "An object is used for at most 512 calls after it has been made; what later calls answer is "
                + "free.", this::manyCalls);
        terms("A change is a successful call of addGuest, giveFeather, placeHat, removeHat, touchHat, leaveCoat, "
                + "takeCoat, contest, pass, sweep or run.", this::changesAndOthers);
        terms("A successful call is a change even if nothing differs afterwards.", this::nothingDiffers);
        terms("A call of run that carries out several commands is one change.", this::runIsOneChange);
        terms("The latest 8 changes can be undone, the latest one first.", this::latestEight);
        terms("The command text, the error position, the failure, and the line are neither undone nor saved.",
                this::neitherUndoneNorSaved);
        terms("Everything else is.", this::everythingElse);
        terms("A method that throws an exception changes nothing, except that run clears the command text and sets the "
                + "error position or the failure.", this::refusedCalls);
        terms("If several exceptions apply, the exception listed first is thrown.", this::severalExceptions);
        promise(50, "Undoes the latest change that has not been undone.", this::latestNotUndone);
        promise(50, "Returns the number of changes that can still be undone.", this::stillUndoable);
        promise(50, "Throws `IllegalStateException` if there is no change to undo", this::nothingToUndo);
        promise(51, "Saves everything that changes can change as the snapshot, replacing an earlier snapshot.",
                this::replacesTheSnapshot);
        promise(51, "Returns the number of placed hats.", this::placedHatsSaved);
        promise(52, "Restores the snapshot, which is kept.", this::snapshotIsKept);
        promise(52, "After the call no change can be undone.", this::noChangeAfterRestore);
        promise(52, "Returns the number of placed hats.", this::placedHatsRestored);
        promise(52, "Throws `IllegalStateException` if there is no snapshot", this::noSnapshot);
    }

    /** Three objects with 512 calls each, the last of which are answered as the first ones. */
    private void manyCalls() {
        HatReservations coats = Halls.with(0, 0, 0, 0);
        coats.placeHat(0, 39);
        for (int pair = 0; pair < 252; pair++) {
            due(0, () -> coats.leaveCoat(1, 39));
            due(39, () -> coats.takeCoat(1));
        }
        due(0, () -> coats.leaveCoat(1, 39));
        due(60, () -> coats.pass(60));
        due(1, () -> coats.nextClaimantByTime(39));
        due(60, () -> coats.idleMinutes(0));
        due(7, () -> coats.undo());
        HatReservations passes = new HatReservations();
        for (int call = 1; call <= 511; call++) {
            int minutes = 60 * call;
            due(minutes, () -> passes.pass(60));
        }
        due(30660, () -> passes.now());
        HatReservations runs = new HatReservations();
        for (int run = 0; run < 73; run++) {
            due(1, () -> Halls.run(runs, "pass 9"));
        }
        due(657, () -> runs.now());
    }

    private void isChange(Function<HatReservations, Object> call) {
        HatReservations hall = Halls.restored();
        String before = Halls.state(hall);
        due(STATE, () -> hall.undo());
        call.apply(hall);
        due(0, () -> hall.undo());
        due(before, () -> Halls.state(hall));
        due(STATE, () -> hall.undo());
    }

    private void isNoChange(Function<HatReservations, Object> call) {
        HatReservations hall = Halls.restored();
        String before = Halls.state(hall);
        Checks.answer(() -> call.apply(hall));
        due(STATE, () -> hall.undo());
        due(before, () -> Halls.state(hall));
    }

    private void changesAndOthers() {
        isChange(hall -> hall.addGuest(0, 2));
        isChange(hall -> hall.giveFeather(1));
        isChange(hall -> hall.placeHat(1, 5));
        isChange(hall -> hall.removeHat(0));
        isChange(hall -> hall.touchHat(0));
        isChange(hall -> hall.leaveCoat(2, 39));
        isChange(hall -> hall.takeCoat(4));
        isChange(hall -> hall.contest(4, 1));
        isChange(hall -> hall.contest(4, 15));
        isChange(hall -> hall.pass(1));
        isChange(hall -> hall.sweep(20));
        isChange(hall -> Halls.run(hall, "pass 1"));
        isNoChange(hall -> hall.save());
        isNoChange(hall -> hall.restore());
        isNoChange(hall -> hall.append('p'));
        isNoChange(hall -> hall.describeRow(0));
        isNoChange(hall -> hall.wouldWin(4, 0));
        isNoChange(hall -> hall.nextClaimant(15));
        isNoChange(hall -> hall.isConsistent());
        isNoChange(hall -> hall.undo());
        isNoChange(hall -> Halls.remarks(hall));
        isNoChange(hall -> hall.addGuest(10, 0));
        isNoChange(hall -> hall.giveFeather(0));
        isNoChange(hall -> hall.placeHat(1, 15));
        isNoChange(hall -> hall.removeHat(1));
        isNoChange(hall -> hall.touchHat(1));
        isNoChange(hall -> hall.leaveCoat(0, 15));
        isNoChange(hall -> hall.takeCoat(0));
        isNoChange(hall -> hall.contest(4, 20));
        isNoChange(hall -> hall.pass(61));
        isNoChange(hall -> hall.sweep(241));
        isNoChange(hall -> hall.run());
        isNoChange(hall -> Halls.run(hall, "pass 1;pass 0"));
    }

    private void countsAlthoughTheSame(Function<HatReservations, Object> call) {
        HatReservations hall = Halls.restored();
        String before = Halls.state(hall);
        call.apply(hall);
        due(before, () -> Halls.state(hall));
        call.apply(hall);
        due(1, () -> hall.undo());
        due(0, () -> hall.undo());
        due(before, () -> Halls.state(hall));
    }

    private void nothingDiffers() {
        countsAlthoughTheSame(hall -> hall.touchHat(2));
        countsAlthoughTheSame(hall -> hall.contest(1, 15));
        countsAlthoughTheSame(hall -> hall.sweep(21));
        countsAlthoughTheSame(hall -> Halls.run(hall, "touch 2"));
        countsAlthoughTheSame(hall -> Halls.run(hall, "contest 1 0;sweep 240"));
    }

    private void runIsOneChange() {
        String text = "pass 1";
        for (int commands = 1; commands <= 8; commands++) {
            String commandText = text;
            int count = commands;
            HatReservations hall = Halls.restored();
            due(count, () -> Halls.run(hall, commandText));
            due(20 + count, () -> hall.now());
            due(0, () -> hall.undo());
            due(20, () -> hall.now());
            due(STATE, () -> hall.undo());
            text += ";pass 1";
        }
        isChange(hall -> Halls.run(hall, "lift 0;hat 0 5;fetch 4;pass 60;contest 4 5;guest 11"));
    }

    private static HatReservations passed(int changes) {
        HatReservations hall = new HatReservations();
        for (int change = 0; change < changes; change++) {
            hall.pass(1);
        }
        return hall;
    }

    private void latestEight() {
        for (int changes = 0; changes <= 20; changes++) {
            HatReservations hall = passed(changes);
            int undoable = Math.min(8, changes);
            for (int undone = 1; undone <= undoable; undone++) {
                int left = undoable - undone;
                int minutes = changes - undone;
                due(left, () -> hall.undo());
                due(minutes, () -> hall.now());
            }
            int minutes = changes - undoable;
            due(STATE, () -> hall.undo());
            due(minutes, () -> hall.now());
            withRefusedRuns(changes);
        }
        eachKindOnce();
    }

    /** Runs that fail are no changes, and take none of the latest 8 away. */
    private void withRefusedRuns(int changes) {
        HatReservations hall = passed(changes);
        due(STATE, () -> Halls.run(hall, "pass 60;pass 60;lift 0"));
        due(ARGUMENT, () -> Halls.run(hall, "pass 60;"));
        due(STATE, () -> Halls.run(hall, "pass 60;pass 0"));
        due(changes, () -> hall.now());
        int undoable = Math.min(8, changes);
        for (int undone = 1; undone <= undoable; undone++) {
            int left = undoable - undone;
            int minutes = changes - undone;
            due(left, () -> hall.undo());
            due(minutes, () -> hall.now());
        }
        due(STATE, () -> hall.undo());
    }

    /** Nine changes of nine kinds: all but the first one can be undone. */
    private void eachKindOnce() {
        HatReservations hall = new HatReservations();
        hall.addGuest(0, 0);
        String[] states = new String[8];
        Supplier<?>[] changes = {
            () -> hall.addGuest(9, 1), () -> hall.placeHat(0, 7), () -> hall.pass(3), () -> hall.touchHat(0),
            () -> hall.leaveCoat(1, 7), () -> hall.giveFeather(0), () -> hall.removeHat(0), () -> hall.sweep(1),
        };
        for (int index = 0; index < 8; index++) {
            states[index] = Halls.state(hall);
            changes[index].get();
        }
        for (int index = 7; index >= 0; index--) {
            int left = index;
            due(left, () -> hall.undo());
            due(states[left], () -> Halls.state(hall));
        }
        due(STATE, () -> hall.undo());
        due(1, () -> hall.guestCount());
    }

    private void neitherUndoneNorSaved() {
        HatReservations hall = Halls.settled();
        hall.save();
        hall.pass(1);
        due(ARGUMENT, () -> Halls.run(hall, "pass 1;"));
        due(STATE, () -> Halls.run(hall, "lift 9"));
        hall.describeRow(3);
        Halls.write(hall, "pass");
        String remarks = Halls.remarks(hall);
        due(false, () -> remarks.equals(Halls.remarks(Halls.settled())));
        hall.undo();
        due(remarks, () -> Halls.remarks(hall));
        due(5, () -> hall.append(' '));
        hall.restore();
        due(remarks, () -> Halls.remarks(hall));
        due(6, () -> hall.append('7'));
        due(1, () -> hall.run());
        due(27, () -> hall.now());
        // neither does an undone run give its text back
        due(0, () -> hall.undo());
        due(1, () -> hall.append('p'));
        nothingIsSavedOfAFreshObject();
    }

    private void nothingIsSavedOfAFreshObject() {
        HatReservations hall = new HatReservations();
        hall.save();
        hall.pass(1);
        due(ARGUMENT, () -> hall.run());
        due(STATE, () -> Halls.run(hall, "lift 0"));
        hall.describeRow(0);
        hall.append('p');
        hall.undo();
        hall.restore();
        due(0, () -> hall.errorPosition());
        due(0, () -> hall.failedCommand());
        due(1, () -> hall.failedException());
        due('.', () -> hall.lineAt(9));
        due(2, () -> hall.append('p'));
    }

    private void everythingElse() {
        HatReservations hall = Halls.settled();
        String first = Halls.state(hall);
        hall.save();
        due(6, () -> Halls.run(hall, "contest 4 39;sweep 1;pass 60;guest 92;fetch 5;feather 5"));
        String second = Halls.state(hall);
        due(false, () -> first.equals(second));
        due(7, () -> hall.undo());
        due(first, () -> Halls.state(hall));
        due(6, () -> Halls.run(hall, "contest 4 39;sweep 1;pass 60;guest 92;fetch 5;feather 5"));
        due(second, () -> Halls.state(hall));
        hall.restore();
        due(first, () -> Halls.state(hall));
        totalsToo();
        orderOfCoatsToo();
        lastGuestToo();
        guestsOfTheSnapshot();
    }

    private void totalsToo() {
        HatReservations hall = Halls.settled();
        hall.save();
        hall.contest(4, 39);
        hall.sweep(20);
        hall.removeHat(1);
        due("1 1 3 1", () -> totals(hall));
        hall.undo();
        due("1 0 2 1", () -> totals(hall));
        hall.undo();
        due("0 0 0 1", () -> totals(hall));
        hall.undo();
        due("0 0 0 0", () -> totals(hall));
        hall.sweep(20);
        hall.restore();
        due("0 0 0 0", () -> totals(hall));
    }

    private static String totals(HatReservations hall) {
        return hall.sweptTotal() + " " + hall.lapsedTotal() + " " + hall.offersTaken() + " " + hall.contestsWon();
    }

    private void orderOfCoatsToo() {
        HatReservations hall = Halls.settled();
        hall.save();
        hall.takeCoat(1);
        hall.leaveCoat(1, 15);
        due(4, () -> hall.nextClaimantByTime(15));
        hall.undo();
        hall.undo();
        due(1, () -> hall.nextClaimantByTime(15));
        due(1, () -> hall.nextClaimant(15));
        hall.takeCoat(1);
        hall.leaveCoat(1, 15);
        hall.restore();
        due(1, () -> hall.nextClaimantByTime(15));
        due(1, () -> hall.nextClaimant(15));
    }

    /** Eight guests: the hat of 0 on the chair 0 with the coats of 7 and 1 in this order, the hat of 7 on the chair 25. */
    private static HatReservations lastGuest() {
        HatReservations hall = Halls.with(0, 0, 0, 0, 0, 0, 0, 0, 0, 0, 0, 0, 0, 0, 5, 2);
        hall.placeHat(0, 0);
        hall.leaveCoat(7, 0);
        hall.leaveCoat(1, 0);
        hall.placeHat(7, 25);
        hall.pass(3);
        hall.save();
        return hall;
    }

    private void lastGuestToo() {
        String before = Halls.state(lastGuest());
        String[] changes = {"feather 7", "touch 7", "lift 7", "fetch 7", "fetch 1;fetch 7;coat 1 0;coat 7 0",
            "lift 7;hat 7 39", "lift 7;contest 7 0", "sweep 1", "lift 0"};
        for (String change : changes) {
            HatReservations undone = lastGuest();
            Halls.run(undone, change);
            due(false, () -> before.equals(Halls.state(undone)));
            undone.undo();
            due(before, () -> Halls.state(undone));
            HatReservations restored = lastGuest();
            Halls.run(restored, change);
            restored.restore();
            due(before, () -> Halls.state(restored));
        }
        HatReservations hall = lastGuest();
        Halls.run(hall, "lift 7;fetch 7;coat 7 0");
        due(1, () -> hall.nextClaimantByTime(0));
        hall.undo();
        hall.removeHat(7);
        due(7, () -> hall.nextClaimantByTime(0));
        due(7, () -> hall.nextClaimant(0));
    }

    /** The guests of the snapshot come back with what is theirs, though other guests have had their numbers since. */
    private void guestsOfTheSnapshot() {
        for (int guests = 1; guests <= 8; guests++) {
            int last = guests - 1;
            HatReservations hall = new HatReservations();
            for (int guest = 0; guest < guests; guest++) {
                hall.addGuest(9 - guest, 2 - guest % 2);
            }
            hall.save();
            hall.undo();
            hall.addGuest(0, 0);
            due(0, () -> hall.brim(last));
            hall.restore();
            due(9 - last, () -> hall.feathers(last));
            due(2 - last % 2, () -> hall.brim(last));
        }
    }

    private void refusedCalls() {
        refusedChanges();
        refusedQuestions();
        refusedRun(ARGUMENT, "pass 1;", "7 1 2 ");
        refusedRun(ARGUMENT, "", "0 1 2 ");
        refusedRun(STATE, "lift 9", "5 0 1 ");
        refusedRun(STATE, "pass 1;lift 0;sweep 1;hat 1 5;coat 2 1", "5 3 2 ");
    }

    private void refusedChanges() {
        refused(ARGUMENT, Halls::busy, hall -> hall.addGuest(0, 3));
        refused(STATE, Halls::full, hall -> hall.addGuest(0, 0));
        refused(BOUNDS, Halls::busy, hall -> hall.giveFeather(7));
        refused(STATE, Halls::busy, hall -> hall.giveFeather(0));
        refused(BOUNDS, Halls::busy, hall -> hall.placeHat(1, 40));
        refused(STATE, Halls::busy, hall -> hall.placeHat(0, 5));
        refused(UNSUPPORTED, Halls::busy, hall -> hall.placeHat(1, 17));
        refused(BOUNDS, Halls::busy, hall -> hall.removeHat(7));
        refused(MISSING, Halls::busy, hall -> hall.removeHat(1));
        refused(BOUNDS, Halls::busy, hall -> hall.touchHat(7));
        refused(MISSING, Halls::busy, hall -> hall.touchHat(1));
        refused(BOUNDS, Halls::busy, hall -> hall.leaveCoat(2, 40));
        refused(STATE, Halls::busy, hall -> hall.leaveCoat(1, 14));
        refused(UNSUPPORTED, Halls::busy, hall -> hall.leaveCoat(2, 15));
        refused(BOUNDS, Halls::busy, hall -> hall.takeCoat(7));
        refused(MISSING, Halls::busy, hall -> hall.takeCoat(0));
        refused(BOUNDS, Halls::busy, hall -> hall.contest(1, 40));
        refused(MISSING, Halls::busy, hall -> hall.contest(1, 20));
        refused(STATE, Halls::busy, hall -> hall.contest(0, 0));
        refused(ARGUMENT, Halls::busy, hall -> hall.pass(61));
        refused(ARGUMENT, Halls::busy, hall -> hall.sweep(241));
        refused(ARGUMENT, Halls::busy, hall -> hall.append((char) 127));
        refused(STATE, Halls::written, hall -> hall.append('p'));
        refused(STATE, Halls::restored, hall -> hall.undo());
        refused(STATE, ChangeBoundaries::unsaved, hall -> hall.restore());
    }

    private void refusedQuestions() {
        refused(BOUNDS, Halls::busy, hall -> hall.feathers(7));
        refused(BOUNDS, Halls::busy, hall -> hall.brim(7));
        refused(BOUNDS, Halls::busy, hall -> hall.isPlaced(7));
        refused(MISSING, Halls::busy, hall -> hall.hatChair(1));
        refused(BOUNDS, Halls::busy, hall -> hall.coverSize(7));
        refused(MISSING, Halls::busy, hall -> hall.idleMinutes(1));
        refused(BOUNDS, Halls::busy, hall -> hall.hasCoatLeft(7));
        refused(MISSING, Halls::busy, hall -> hall.coatChair(0));
        refused(BOUNDS, Halls::busy, hall -> hall.coatCount(40));
        refused(MISSING, Halls::busy, hall -> hall.coatOwner(15, 3));
        refused(MISSING, Halls::busy, hall -> hall.nextClaimant(20));
        refused(MISSING, Halls::busy, hall -> hall.nextClaimantByTime(20));
        refused(BOUNDS, Halls::busy, hall -> hall.wouldWin(1, 40));
        refused(MISSING, HatReservations::new, hall -> hall.idlestGuest());
        refused(BOUNDS, Halls::busy, hall -> hall.isCovered(40));
        refused(MISSING, Halls::busy, hall -> hall.covererOf(20));
        refused(BOUNDS, Halls::busy, hall -> hall.longestFreeRun(4));
        refused(BOUNDS, Halls::busy, hall -> hall.longestFreeRunByMask(4));
        refused(MISSING, Halls::busy, hall -> hall.guestAtRank(7));
        refused(MISSING, HatReservations::new, hall -> hall.errorPosition());
        refused(MISSING, HatReservations::new, hall -> hall.failedCommand());
        refused(MISSING, HatReservations::new, hall -> hall.failedException());
        refused(BOUNDS, Halls::busy, hall -> hall.describeRow(4));
        refused(BOUNDS, Halls::busy, hall -> hall.lineAt(10));
        refused(ArithmeticException.class, HatReservations::new, hall -> hall.meanCover());
    }

    private static HatReservations unsaved() {
        HatReservations hall = Halls.with(3, 1, 0, 0);
        hall.placeHat(0, 0);
        hall.leaveCoat(1, 1);
        hall.pass(5);
        Halls.write(hall, "pa");
        return hall;
    }

    /** The remarks begin with the error position and the failure. */
    private void refusedRun(Class<?> want, String text, String remarks) {
        HatReservations hall = Halls.settled();
        due(want, () -> Halls.run(hall, text));
        due(remarks, () -> Halls.remarks(hall).substring(0, remarks.length()));
        due(Halls.line(Halls.settled(), 1), () -> Halls.remarks(hall).substring(remarks.length()));
        due(Halls.state(Halls.settled()), () -> Halls.state(hall));
        due(Halls.memory(Halls.settled()), () -> Halls.memory(hall));
    }

    private void severalExceptions() {
        refused(ARGUMENT, Halls::full, hall -> hall.addGuest(10, 0));
        refused(ARGUMENT, Halls::full, hall -> hall.addGuest(0, 3));
        refused(BOUNDS, Halls::busy, hall -> hall.placeHat(7, 15));
        refused(BOUNDS, Halls::busy, hall -> hall.placeHat(0, 40));
        refused(STATE, Halls::busy, hall -> hall.placeHat(0, 15));
        refused(STATE, Halls::busy, hall -> hall.placeHat(0, 39));
        refused(BOUNDS, Halls::busy, hall -> hall.leaveCoat(7, 20));
        refused(BOUNDS, Halls::busy, hall -> hall.leaveCoat(1, 40));
        refused(STATE, Halls::busy, hall -> hall.leaveCoat(6, 20));
        refused(STATE, Halls::busy, hall -> hall.leaveCoat(6, 15));
        refused(BOUNDS, Halls::busy, hall -> hall.coatOwner(40, 3));
        refused(BOUNDS, Halls::busy, hall -> hall.coatOwner(-1, -1));
        refused(BOUNDS, Halls::busy, hall -> hall.contest(7, 20));
        refused(BOUNDS, Halls::busy, hall -> hall.contest(0, 40));
        refused(MISSING, Halls::busy, hall -> hall.contest(0, 20));
        refused(ARGUMENT, Halls::written, hall -> hall.append((char) 31));
        refused(ARGUMENT, Halls::written, hall -> hall.append((char) 127));
        // the first command would fail, but the text is no command text
        HatReservations hall = Halls.settled();
        due(ARGUMENT, () -> Halls.run(hall, "lift 9;"));
        due(7, () -> hall.errorPosition());
        due(1, () -> hall.failedCommand());
        ownHatOverOwnCoat();
    }

    /** A coat under the hat of its own guest is left already, and its chair is the guest's own. */
    private void ownHatOverOwnCoat() {
        HatReservations hall = Halls.with(0, 0, 5, 1);
        hall.placeHat(0, 5);
        hall.leaveCoat(1, 5);
        hall.contest(1, 5);
        due(STATE, () -> hall.leaveCoat(1, 5));
        due(STATE, () -> hall.placeHat(1, 5));
        due(STATE, () -> hall.contest(1, 5));
    }

    private void latestNotUndone() {
        HatReservations hall = passed(2);
        due(1, () -> hall.undo());
        due(1, () -> hall.now());
        hall.pass(10);
        hall.pass(20);
        due(2, () -> hall.undo());
        due(11, () -> hall.now());
        due(1, () -> hall.undo());
        due(1, () -> hall.now());
        due(0, () -> hall.undo());
        due(0, () -> hall.now());
        due(STATE, () -> hall.undo());
    }

    private void stillUndoable() {
        for (int undone = 0; undone <= 8; undone++) {
            int left = Math.min(8, 8 - undone + 1) - 1;
            HatReservations hall = passed(11);
            for (int undo = 1; undo <= undone; undo++) {
                int due = 8 - undo;
                due(due, () -> hall.undo());
            }
            hall.pass(1);
            due(left, () -> hall.undo());
        }
        refusedUndoCountsNothing();
    }

    private void refusedUndoCountsNothing() {
        HatReservations hall = passed(1);
        due(0, () -> hall.undo());
        due(STATE, () -> hall.undo());
        due(STATE, () -> hall.undo());
        hall.pass(1);
        hall.pass(1);
        due(1, () -> hall.undo());
    }

    private void nothingToUndo() {
        refused(STATE, HatReservations::new, hall -> hall.undo());
        refused(STATE, Halls::restored, hall -> hall.undo());
        refused(STATE, () -> undone(passed(1), 1), hall -> hall.undo());
        refused(STATE, () -> undone(passed(8), 8), hall -> hall.undo());
        refused(STATE, () -> undone(passed(9), 8), hall -> hall.undo());
        notRefused(STATE, () -> undone(passed(8), 7), hall -> hall.undo());
        notRefused(STATE, () -> passed(1), hall -> hall.undo());
    }

    private static HatReservations undone(HatReservations hall, int changes) {
        for (int change = 0; change < changes; change++) {
            hall.undo();
        }
        return hall;
    }

    private void replacesTheSnapshot() {
        HatReservations hall = passed(3);
        hall.save();
        hall.pass(1);
        hall.save();
        hall.pass(1);
        hall.restore();
        due(4, () -> hall.now());
        hall.pass(9);
        hall.undo();
        hall.save();
        hall.pass(2);
        hall.restore();
        due(4, () -> hall.now());
        // an undo leaves the snapshot alone
        hall.pass(5);
        hall.save();
        hall.undo();
        due(4, () -> hall.now());
        hall.restore();
        due(9, () -> hall.now());
        snapshotOfAnEmptyHall();
    }

    private void snapshotOfAnEmptyHall() {
        HatReservations hall = new HatReservations();
        due(0, () -> hall.save());
        hall.addGuest(4, 2);
        hall.placeHat(0, 0);
        due(0, () -> hall.restore());
        due(0, () -> hall.guestCount());
        due(0L, () -> hall.coveredMask());
        due(BOUNDS, () -> hall.feathers(0));
        due(0, () -> hall.addGuest(1, 1));
        due(false, () -> hall.isPlaced(0));
    }

    private void placedHatsSaved() {
        HatReservations hall = Halls.with(0, 0, 0, 0, 0, 0, 0, 0, 0, 0, 0, 0, 0, 0, 0, 0);
        for (int placed = 0; placed < 8; placed++) {
            int guest = placed;
            due(guest, () -> hall.save());
            hall.placeHat(guest, guest);
        }
        due(8, () -> hall.save());
    }

    private void snapshotIsKept() {
        HatReservations hall = Halls.settled();
        hall.save();
        String saved = Halls.state(hall);
        Runnable[] uses = {
            () -> hall.removeHat(0), () -> hall.sweep(1), () -> hall.contest(4, 39), () -> hall.pass(60),
        };
        for (Runnable use : uses) {
            use.run();
            due(false, () -> saved.equals(Halls.state(hall)));
            due(3, () -> hall.restore());
            due(saved, () -> Halls.state(hall));
            due(3, () -> hall.restore());
            due(saved, () -> Halls.state(hall));
        }
    }

    private void noChangeAfterRestore() {
        for (int changes = 0; changes <= 9; changes++) {
            HatReservations hall = passed(changes);
            hall.save();
            hall.pass(1);
            hall.restore();
            due(STATE, () -> hall.undo());
            hall.pass(1);
            due(0, () -> hall.undo());
            due(STATE, () -> hall.undo());
        }
    }

    private void placedHatsRestored() {
        HatReservations hall = Halls.with(0, 0, 0, 0, 0, 0, 0, 0, 0, 0, 0, 0, 0, 0, 0, 0);
        hall.save();
        for (int guest = 0; guest < 8; guest++) {
            hall.placeHat(guest, guest);
        }
        due(0, () -> hall.restore());
        for (int guest = 0; guest < 8; guest++) {
            hall.placeHat(guest, 32 + guest);
        }
        hall.save();
        hall.sweep(240);
        hall.removeHat(3);
        due(8, () -> hall.restore());
    }

    private void noSnapshot() {
        refused(STATE, HatReservations::new, hall -> hall.restore());
        refused(STATE, ChangeBoundaries::unsaved, hall -> hall.restore());
        HatReservations hall = new HatReservations();
        hall.save();
        due(0, () -> hall.restore());
    }
}
