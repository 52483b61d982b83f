/** The boundary cases of the promises 45 to 49: line, statistics and invariants. */
final class LineBoundaries extends Boundaries {
    private static final int[] EIGHT_GUESTS = {0, 2, 0, 2, 0, 2, 0, 2, 0, 2, 0, 2, 0, 2, 0, 2};

    LineBoundaries(Checks checks) {
        super(checks);
    }

    @Override
    void all() {
        describeRow();
        promise(46, "The line is initially empty.", () -> {
            HatReservations hall = new HatReservations();
            due(BOUNDS, () -> hall.lineAt(0));
            due(BOUNDS, () -> hall.lineAt(9));
            due(BOUNDS, () -> hall.describeRow(4));
            due(BOUNDS, () -> hall.lineAt(0));
            hall.describeRow(0);
            due('.', () -> hall.lineAt(0));
        });
        promise(46, "Throws `IndexOutOfBoundsException` if there is no such index", () -> {
            int[] indexes = {Integer.MIN_VALUE, -1, 10, 11, Integer.MAX_VALUE};
            for (int index : indexes) {
                refused(BOUNDS, Halls::busy, hall -> hall.lineAt(index));
            }
            for (int index = 0; index < 10; index++) {
                int known = index;
                notRefused(BOUNDS, Halls::busy, hall -> hall.lineAt(known));
                refused(BOUNDS, HatReservations::new, hall -> hall.lineAt(known));
            }
        });
        meanCover();
        coveredShare();
        promise(49, "Returns whether all of them hold.", this::isConsistent);
    }

    private void describeRow() {
        promise(45, "- `row`: the row, 0 to 3", () -> {
            HatReservations hall = Halls.with(0, 0, 0, 0);
            hall.placeHat(0, 0);
            hall.placeHat(1, 39);
            due("A.........", () -> Halls.line(hall, 0));
            due("..........", () -> Halls.line(hall, 1));
            due(".........B", () -> Halls.line(hall, 3));
            due(BOUNDS, () -> hall.describeRow(-1));
            due(BOUNDS, () -> hall.describeRow(4));
        });
        promise(45, "Writes a row to the line, replacing its previous content.", () -> {
            HatReservations hall = crowd();
            due("aaAaabbBbb", () -> Halls.line(hall, 0));
            due("ccCccddDdd", () -> Halls.line(hall, 1));
            hall.sweep(240);
            hall.removeHat(2);
            due('c', () -> hall.lineAt(0));
            due(".....ddDdd", () -> Halls.line(hall, 1));
        });
        promise(45, "Each chair is one character: \".\" if it is not covered, the uppercase letter of a guest if the hat "
                + "of the guest is placed on it, and the lowercase letter of a guest if the hat of the guest covers it "
                + "otherwise.", this::characters);
        promise(45, "The letters of the guests 0 to 7 are A to H.", () -> {
            due("aaAaabbBbb", () -> Halls.line(crowd(), 0));
            due("ggGgghhHhh", () -> Halls.line(crowd(), 3));
            HatReservations hall = Halls.with(EIGHT_GUESTS);
            for (int guest = 0; guest < 8; guest++) {
                char upper = "ABCDEFGH".charAt(guest);
                char lower = "abcdefgh".charAt(guest);
                hall.placeHat(guest, 0);
                hall.describeRow(0);
                due(upper, () -> hall.lineAt(0));
                due(lower, () -> hall.lineAt(1));
                due(lower, () -> hall.lineAt(2));
                hall.removeHat(guest);
            }
        });
        promise(45, "An example is \"..aA.bBb..\".", () -> {
            HatReservations hall = Halls.with(0, 1, 0, 1, 0, 0);
            hall.placeHat(2, 4);
            hall.placeHat(0, 3);
            hall.removeHat(2);
            hall.placeHat(1, 6);
            due("..aA.bBb..", () -> Halls.line(hall, 0));
        });
        promise(45, "Returns the length of the line.", () -> {
            due(10, () -> new HatReservations().describeRow(0));
            due(10, () -> crowd().describeRow(3));
        });
        promise(45, "Throws `IndexOutOfBoundsException` if there is no such row",
                () -> rowsAlone((hall, row) -> hall.describeRow(row)));
    }

    /** Eight hats that cover all the chairs. */
    private static HatReservations crowd() {
        HatReservations hall = Halls.with(EIGHT_GUESTS);
        for (int guest = 0; guest < 8; guest++) {
            hall.placeHat(guest, 5 * guest + 2);
        }
        return hall;
    }

    private void characters() {
        HatReservations hall = Halls.with(0, 2, 1, 0);
        due("..........", () -> Halls.line(hall, 2));
        hall.placeHat(0, 29);
        due(".......aaA", () -> Halls.line(hall, 2));
        hall.contest(1, 28);
        due("........BA", () -> Halls.line(hall, 2));
        hall.removeHat(0);
        due("........B.", () -> Halls.line(hall, 2));
        hall.placeHat(0, 20);
        due("Aaa.....B.", () -> Halls.line(hall, 2));
    }

    private void meanCover() {
        promise(47, "Returns the mean number of chairs that a placed hat covers: the number of covered chairs divided by "
                + "the number of placed hats, both converted to double.", () -> {
            HatReservations hall = Halls.with(0, 0, 0, 2, 0, 0);
            hall.placeHat(0, 0);
            due(1.0, () -> hall.meanCover());
            hall.placeHat(1, 15);
            due(3.0, () -> hall.meanCover());
            hall.placeHat(2, 39);
            due(7.0 / 3.0, () -> hall.meanCover());
            due(5.0, () -> crowd().meanCover());
            HatReservations half = Halls.with(0, 0, 0, 1);
            half.placeHat(0, 0);
            half.placeHat(1, 1);
            due(1.5, () -> half.meanCover());
        });
        promise(47, "Throws `ArithmeticException` if no hat is placed", () -> {
            refused(ArithmeticException.class, HatReservations::new, hall -> hall.meanCover());
            refused(ArithmeticException.class, () -> Halls.with(9, 2), hall -> hall.meanCover());
            refused(ArithmeticException.class, LineBoundaries::lifted, hall -> hall.meanCover());
            notRefused(ArithmeticException.class, Halls::busy, hall -> hall.meanCover());
        });
    }

    private static HatReservations lifted() {
        HatReservations hall = Halls.with(0, 0);
        hall.placeHat(0, 0);
        hall.removeHat(0);
        return hall;
    }

    private void coveredShare() {
        promise(48, "Returns the share of the 40 chairs that are covered, both numbers converted to float.", () -> {
            HatReservations hall = Halls.with(EIGHT_GUESTS);
            due(0.0f, () -> hall.coveredShare());
            int covered = 0;
            for (int guest = 0; guest < 8; guest++) {
                covered += hall.placeHat(guest, 5 * guest + 2);
                float share = (float) covered / 40.0f;
                due(share, () -> hall.coveredShare());
            }
            due(1.0f, () -> hall.coveredShare());
            HatReservations one = Halls.with(0, 0);
            due(0.0f, () -> one.coveredShare());
            one.placeHat(0, 39);
            due(1.0f / 40.0f, () -> one.coveredShare());
        });
    }

    private void isConsistent() {
        due(true, () -> new HatReservations().isConsistent());
        due(true, () -> crowd().isConsistent());
        due(true, () -> Halls.busy().isConsistent());
        HatReservations hall = Halls.settled();
        hall.contest(4, 39);
        due(true, () -> hall.isConsistent());
        hall.sweep(20);
        due(true, () -> hall.isConsistent());
        hall.removeHat(1);
        due(true, () -> hall.isConsistent());
        hall.undo();
        due(true, () -> hall.isConsistent());
        hall.restore();
        due(true, () -> hall.isConsistent());
    }
}
