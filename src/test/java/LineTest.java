/** Promises 45 to 49: line, statistics and invariants. */
public final class LineTest {
    private static final Class<?> BOUNDS = IndexOutOfBoundsException.class;

    private final Checks checks = new Checks();

    public static void main(String[] args) {
        LineTest test = new LineTest();
        test.describeRow();
        test.lineAt();
        test.lineStays();
        test.statistics();
        test.isConsistent();
        test.checks.close("LineTest");
    }

    private void describeRow() {
        checks.promise(45, "describeRow");
        HatReservations hall = Halls.with(0, 1, 0, 1, 0, 0, 0, 0, 0, 0, 0, 0, 0, 0, 0, 0);
        checks.due(BOUNDS, () -> hall.describeRow(-1));
        checks.due(BOUNDS, () -> hall.describeRow(4));
        checks.due(10, () -> hall.describeRow(3));
        checks.due("..........", () -> Halls.line(hall, 0));
        hall.placeHat(0, 3);
        hall.placeHat(1, 6);
        checks.due("..aAabBb..", () -> Halls.line(hall, 0));
        hall.removeHat(0);
        hall.placeHat(2, 4);
        hall.placeHat(0, 3);
        hall.removeHat(2);
        checks.due("..aA.bBb..", () -> Halls.line(hall, 0));
        for (int guest = 2; guest < 8; guest++) {
            hall.placeHat(guest, 28 + guest);
        }
        checks.due("CDEFGH....", () -> Halls.line(hall, 3));
        checks.due("..........", () -> Halls.line(hall, 2));
        checks.due(BOUNDS, () -> hall.describeRow(Integer.MAX_VALUE));
        checks.due('.', () -> hall.lineAt(0));
    }

    private void lineAt() {
        checks.promise(46, "lineAt");
        HatReservations hall = Halls.with(0, 1);
        checks.due(BOUNDS, () -> hall.lineAt(0));
        checks.due(BOUNDS, () -> hall.lineAt(-1));
        hall.placeHat(0, 0);
        checks.due(BOUNDS, () -> hall.lineAt(0));
        hall.describeRow(0);
        checks.due('A', () -> hall.lineAt(0));
        checks.due('a', () -> hall.lineAt(1));
        checks.due('.', () -> hall.lineAt(2));
        checks.due('.', () -> hall.lineAt(9));
        checks.due(BOUNDS, () -> hall.lineAt(10));
        checks.due(BOUNDS, () -> hall.lineAt(-1));
        checks.due(BOUNDS, () -> hall.lineAt(Integer.MIN_VALUE));
    }

    private void lineStays() {
        checks.promise(46, "lineAt");
        HatReservations hall = Halls.with(0, 1);
        hall.placeHat(0, 0);
        hall.save();
        hall.describeRow(0);
        hall.removeHat(0);
        checks.due('A', () -> hall.lineAt(0));
        hall.describeRow(0);
        hall.undo();
        checks.due('.', () -> hall.lineAt(0));
        hall.restore();
        checks.due('.', () -> hall.lineAt(0));
        checks.due("Aa........", () -> Halls.line(hall, 0));
    }

    private void statistics() {
        HatReservations hall = Halls.with(0, 2, 0, 1, 0, 0);
        checks.promise(47, "meanCover");
        checks.due(ArithmeticException.class, () -> hall.meanCover());
        checks.promise(48, "coveredShare");
        checks.due(0.0f, () -> hall.coveredShare());
        hall.placeHat(0, 5);
        hall.placeHat(1, 15);
        checks.promise(47, "meanCover");
        checks.due(4.0, () -> hall.meanCover());
        checks.promise(48, "coveredShare");
        checks.due(0.2f, () -> hall.coveredShare());
        hall.placeHat(2, 20);
        checks.promise(47, "meanCover");
        checks.due(3.0, () -> hall.meanCover());
        hall.removeHat(0);
        hall.placeHat(0, 21);
        checks.due(7.0 / 3.0, () -> hall.meanCover());
        checks.promise(48, "coveredShare");
        checks.due(7.0f / 40.0f, () -> hall.coveredShare());
        hall.removeHat(0);
        hall.removeHat(1);
        hall.removeHat(2);
        checks.due(0.0f, () -> hall.coveredShare());
        checks.promise(47, "meanCover");
        checks.due(ArithmeticException.class, () -> hall.meanCover());
    }

    private void isConsistent() {
        checks.promise(49, "isConsistent");
        HatReservations hall = Halls.with(0, 2, 1, 1, 2, 0, 0, 0);
        checks.due(true, () -> hall.isConsistent());
        hall.placeHat(0, 35);
        hall.leaveCoat(2, 36);
        hall.leaveCoat(3, 36);
        checks.due(true, () -> hall.isConsistent());
        hall.contest(1, 36);
        checks.due(true, () -> hall.isConsistent());
        hall.removeHat(1);
        checks.due(true, () -> hall.isConsistent());
        hall.removeHat(2);
        checks.due(true, () -> hall.isConsistent());
        hall.undo();
        checks.due(true, () -> hall.isConsistent());
    }
}
