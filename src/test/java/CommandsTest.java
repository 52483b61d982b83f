import java.util.NoSuchElementException;

/** Promises 40 to 44: commands. */
public final class CommandsTest {
    private static final Class<?> ARGUMENT = IllegalArgumentException.class;
    private static final Class<?> STATE = IllegalStateException.class;
    private static final Class<?> MISSING = NoSuchElementException.class;

    private final Checks checks = new Checks();

    public static void main(String[] args) {
        CommandsTest test = new CommandsTest();
        test.append();
        test.appendAllCharacters();
        test.runEachCommand();
        test.runNumbers();
        test.runLostContest();
        test.runAllOrNone();
        test.runKeepsFailureAndError();
        test.errorPositions();
        test.errorPositionsOfLongTexts();
        test.errorPositionsAfterLongerTexts();
        test.failures();
        test.failuresOfOffers();
        test.checks.close("CommandsTest");
    }

    private void append() {
        checks.promise(40, "append");
        HatReservations hall = new HatReservations();
        checks.due(ARGUMENT, () -> hall.append((char) 31));
        checks.due(ARGUMENT, () -> hall.append((char) 127));
        checks.due(ARGUMENT, () -> hall.append((char) 0));
        checks.due(ARGUMENT, () -> hall.append((char) 65535));
        checks.due(1, () -> hall.append((char) 32));
        checks.due(2, () -> hall.append((char) 126));
        for (int length = 3; length <= 60; length++) {
            checks.due(length, () -> hall.append(';'));
        }
        checks.due(STATE, () -> hall.append('a'));
        checks.due(STATE, () -> hall.append((char) 32));
        checks.due(ARGUMENT, () -> hall.append((char) 127));
        checks.due(ARGUMENT, () -> hall.run());
        checks.due(1, () -> hall.append('a'));
    }

    private void appendAllCharacters() {
        checks.promise(40, "append");
        for (int code = 0; code < 300; code++) {
            char character = (char) code;
            HatReservations hall = new HatReservations();
            checks.due(code >= 32 && code <= 126 ? (Object) 1 : ARGUMENT, () -> hall.append(character));
        }
    }

    private void runEachCommand() {
        checks.promise(41, "run");
        HatReservations hall = new HatReservations();
        checks.due(5, () -> Halls.run(hall, "guest 52;guest 01;hat 0 5;pass 30;touch 0"));
        checks.due(2, () -> hall.guestCount());
        checks.due(5, () -> hall.feathers(0));
        checks.due(2, () -> hall.brim(0));
        checks.due(0, () -> hall.feathers(1));
        checks.due(1, () -> hall.brim(1));
        checks.due(30, () -> hall.now());
        checks.due(5, () -> hall.coverSize(0));
        checks.due(0, () -> hall.idleMinutes(0));
        checks.due(2, () -> Halls.run(hall, "coat 1 7;feather 1"));
        checks.due(7, () -> hall.coatChair(1));
        checks.due(1, () -> hall.feathers(1));
        checks.due(1, () -> Halls.run(hall, "fetch 1"));
        checks.due(false, () -> hall.hasCoatLeft(1));
        checks.due(2, () -> Halls.run(hall, "coat 1 4;lift 0"));
        checks.due("...bBb....", () -> Halls.line(hall, 0));
        checks.due(1, () -> Halls.run(hall, "contest 0 3"));
        checks.due(".aaABb....", () -> Halls.line(hall, 0));
        checks.due(4, () -> hall.feathers(0));
        checks.due(2, () -> Halls.run(hall, "pass 7;sweep 7"));
        checks.due(0L, () -> hall.coveredMask());
        checks.due(2, () -> hall.sweptTotal());
        checks.due(37, () -> hall.now());
        checks.due(MISSING, () -> hall.errorPosition());
        checks.due(MISSING, () -> hall.failedCommand());
        checks.due(MISSING, () -> hall.failedException());
    }

    private void runNumbers() {
        checks.promise(41, "run");
        HatReservations hall = new HatReservations();
        checks.due(8, () -> Halls.run(hall, "pass 1;pass 02;pass 003;pass 10;pass 1;pass 1;pass 1;pass 01"));
        checks.due(20, () -> hall.now());
        checks.due(8, () -> Halls.run(hall, "pass 1;pass 1;pass 1;pass 1;pass 1;pass 1;pass 1;pass 1"));
        checks.due(28, () -> hall.now());
        checks.due(3, () -> Halls.run(hall, "guest 00;hat 0 039;sweep 240"));
        checks.due(39, () -> hall.hatChair(0));
        checks.due(STATE, () -> Halls.run(hall, "pass 100"));
        checks.due(STATE, () -> Halls.run(hall, "pass 999"));
        checks.due(STATE, () -> Halls.run(hall, "pass 0"));
        checks.due(28, () -> hall.now());
        checks.due(2, () -> Halls.run(hall, "guest 10;coat 1 039"));
        checks.due(39, () -> hall.coatChair(1));
        checks.due(1, () -> Halls.run(hall, "contest 1 039"));
        checks.due(".........B", () -> Halls.line(hall, 3));
    }

    private void runLostContest() {
        checks.promise(41, "run");
        HatReservations hall = Halls.with(4, 0, 3, 0);
        hall.placeHat(0, 0);
        checks.due(2, () -> Halls.run(hall, "contest 1 0;pass 1"));
        checks.due(2, () -> hall.feathers(1));
        checks.due(1, () -> hall.now());
        checks.due(MISSING, () -> hall.failedCommand());
        checks.due(3, () -> hall.undo());
        checks.due(3, () -> hall.feathers(1));
    }

    private void runAllOrNone() {
        checks.promise(41, "run");
        HatReservations hall = Halls.with(4, 1, 9, 2, 0, 0);
        hall.placeHat(0, 15);
        hall.leaveCoat(1, 14);
        hall.leaveCoat(2, 14);
        String before = Halls.state(hall);
        String text = "pass 5;touch 0;feather 2;coat 1 14";
        checks.due(STATE, () -> Halls.run(hall, text));
        checks.due(before, () -> Halls.state(hall));
        checks.due(STATE, () -> Halls.run(hall, "fetch 2;coat 2 15;pass 3;sweep 1;lift 0"));
        checks.due(before, () -> Halls.state(hall));
        checks.due(STATE, () -> Halls.run(hall, "pass 9;lift 0;contest 2 14;feather 1"));
        checks.due(before, () -> Halls.state(hall));
        checks.due(ARGUMENT, () -> Halls.run(hall, "lift 0;lift"));
        checks.due(before, () -> Halls.state(hall));
        checks.due(5, () -> hall.undo());
        checks.due(false, () -> hall.hasCoatLeft(2));
        checks.due(14, () -> hall.coatChair(1));
        checks.due(1, () -> hall.leaveCoat(2, 14));
        checks.due(1, () -> hall.nextClaimantByTime(14));
    }

    private void runKeepsFailureAndError() {
        checks.promise(41, "run");
        HatReservations hall = new HatReservations();
        checks.due(ARGUMENT, () -> hall.run());
        checks.due(0, () -> hall.errorPosition());
        checks.due(MISSING, () -> hall.failedCommand());
        checks.due(MISSING, () -> hall.failedException());
        checks.due(STATE, () -> Halls.run(hall, "pass 1;lift 0"));
        checks.due(0, () -> hall.errorPosition());
        checks.due(1, () -> hall.failedCommand());
        checks.due(1, () -> hall.failedException());
        checks.due(ARGUMENT, () -> Halls.run(hall, "pass 1,"));
        checks.due(6, () -> hall.errorPosition());
        checks.due(1, () -> hall.failedCommand());
        checks.due(1, () -> hall.failedException());
        checks.due(1, () -> Halls.run(hall, "pass 1"));
        checks.due(6, () -> hall.errorPosition());
        checks.due(1, () -> hall.failedCommand());
        checks.due(0, () -> hall.undo());
        checks.due(6, () -> hall.errorPosition());
        checks.due(1, () -> hall.failedException());
        checks.due(1, () -> hall.append('p'));
        hall.save();
        hall.restore();
        checks.due(2, () -> hall.append('a'));
        hall.append('s');
        hall.append('s');
        hall.append(' ');
        hall.append('3');
        hall.pass(1);
        hall.undo();
        checks.due(1, () -> hall.run());
        checks.due(3, () -> hall.now());
    }

    private void errorAt(int position, String text) {
        HatReservations hall = new HatReservations();
        checks.due(ARGUMENT, () -> Halls.run(hall, text));
        checks.due(position, () -> hall.errorPosition());
        checks.due(1, () -> hall.append('x'));
    }

    private void errorPositions() {
        checks.promise(42, "errorPosition");
        HatReservations fresh = new HatReservations();
        checks.due(MISSING, () -> fresh.errorPosition());
        errorAt(0, "");
        errorAt(0, " ");
        errorAt(0, ";");
        errorAt(0, "xpass 1");
        errorAt(0, "Pass 1");
        errorAt(1, "g");
        errorAt(1, "gx");
        errorAt(2, "co");
        errorAt(2, "coxt 1");
        errorAt(3, "coa");
        errorAt(4, "coats 1");
        errorAt(3, "conn");
        errorAt(2, "fe");
        errorAt(2, "fex");
        errorAt(3, "fettch 1");
        errorAt(2, "feether 1");
        errorAt(4, "feat");
        errorAt(3, "feaather 1");
        errorAt(3, "hat1");
        errorAt(4, "hat  1");
        errorAt(5, "hat 1");
        errorAt(5, "hat 11");
        errorAt(6, "hat 1 ");
        errorAt(6, "hat 1 x");
        errorAt(9, "hat 1 1234");
        errorAt(9, "hat 1 123 ");
        errorAt(7, "hat 1 1 ");
        errorAt(8, "hat 1 1;");
        errorAt(8, "hat 1 1;;");
        errorAt(8, "hat 1 1; lift 0");
        errorAt(6, "guest ");
        errorAt(7, "guest 1");
        errorAt(7, "guest 1 2");
        errorAt(8, "guest 123");
        errorAt(8, "guest 12 ");
        errorAt(6, "lift 00");
        errorAt(6, "lift 0 ");
        errorAt(5, "lift ");
        errorAt(5, "lift -");
        errorAt(6, "touch x");
        errorAt(7, "touch 12");
        errorAt(7, "fetch 12");
        errorAt(9, "feather 12");
        errorAt(5, "pass -1");
        errorAt(5, "pass ");
        errorAt(8, "pass 1234");
        errorAt(7, "pass 12 ");
        errorAt(9, "sweep 1234");
        errorAt(6, "sweep ");
        errorAt(9, "contest 12");
        errorAt(10, "contest 1 ");
        errorAt(13, "contest 1 1234");
        errorAt(5, "coat /");
        errorAt(5, "coat :");
        errorAt(7, "coat 1 /");
        errorAt(8, "coat 1 1:");
        errorAt(9, "pass 1;paxs 1");
        errorAt(7, "pass 1;PASS 1");
    }

    private void errorPositionsOfLongTexts() {
        checks.promise(42, "errorPosition");
        String eight = "pass 1;pass 1;pass 1;pass 1;pass 1;pass 1;pass 1;pass 1";
        errorAt(56, eight + ";");
        errorAt(60, eight + ";pass");
        errorAt(60, eight + ";feat");
        errorAt(57, eight + ";pp");
        errorAt(59, eight + "23;g?");
        errorAt(55, eight + "x");
        errorAt(59, "guest 00;guest 00;guest 00;guest 00;guest 00;guest 00;pass 0 ".substring(0, 59) + "~");
        errorAt(60, "guest 00;guest 00;guest 00;guest 00;guest 00;guest 00;hat 00 ".substring(0, 58) + "0 ");
    }

    /** What an earlier text left in the buffer is no part of a shorter one. */
    private void errorPositionsAfterLongerTexts() {
        checks.promise(42, "errorPosition");
        String whole = "hat 1 23;contest 1 234;pass 60x";
        for (int length = 0; length < whole.length(); length++) {
            String start = whole.substring(0, length);
            boolean isText = start.matches("hat 1 23?|hat 1 23;contest 1 23?4?|hat 1 23;contest 1 234;pass 60?");
            int due = length;
            HatReservations hall = new HatReservations();
            checks.due(ARGUMENT, () -> Halls.run(hall, whole));
            checks.due(whole.length() - 1, () -> hall.errorPosition());
            checks.due(isText ? STATE : ARGUMENT, () -> Halls.run(hall, start));
            checks.due(isText ? whole.length() - 1 : due, () -> hall.errorPosition());
        }
    }

    private void fails(HatReservations hall, int command, int exception, String text) {
        String before = Halls.state(hall);
        checks.promise(41, "run");
        checks.due(STATE, () -> Halls.run(hall, text));
        checks.due(before, () -> Halls.state(hall));
        checks.promise(43, "failedCommand");
        checks.due(command, () -> hall.failedCommand());
        checks.promise(44, "failedException");
        checks.due(exception, () -> hall.failedException());
    }

    private void failures() {
        HatReservations hall = new HatReservations();
        checks.promise(43, "failedCommand");
        checks.due(MISSING, () -> hall.failedCommand());
        checks.promise(44, "failedException");
        checks.due(MISSING, () -> hall.failedException());
        fails(hall, 0, 1, "guest 03");
        fails(hall, 6, 1, "guest 00;guest 11;guest 22;pass 1;pass 1;pass 1;guest 09");
        for (int guest = 0; guest < 7; guest++) {
            hall.addGuest(guest, 0);
        }
        fails(hall, 1, 2, "guest 00;guest 00;guest 00");
        fails(hall, 1, 1, "guest 90;guest 03");
        fails(hall, 0, 1, "hat 7 1");
        fails(hall, 0, 1, "hat 0 40");
        fails(hall, 1, 2, "hat 0 0;hat 0 1");
        fails(hall, 1, 3, "hat 0 0;hat 1 0");
        fails(hall, 1, 1, "hat 0 0;hat 0 999");
        fails(hall, 0, 1, "lift 9");
        fails(hall, 0, 2, "lift 0");
        fails(hall, 2, 2, "hat 0 0;lift 0;lift 0");
        fails(hall, 0, 1, "touch 8");
        fails(hall, 0, 2, "touch 6");
        hall.placeHat(0, 0);
        fails(hall, 0, 1, "coat 7 0");
        fails(hall, 0, 1, "coat 1 40");
        fails(hall, 1, 2, "coat 1 0;coat 1 0");
        fails(hall, 0, 3, "coat 1 1");
        fails(hall, 0, 3, "coat 0 0");
        fails(hall, 3, 3, "coat 1 0;coat 2 0;coat 3 0;coat 4 0");
        fails(hall, 0, 1, "fetch 7");
        fails(hall, 0, 2, "fetch 1");
        fails(hall, 0, 1, "contest 7 0");
        fails(hall, 0, 1, "contest 1 40");
        fails(hall, 0, 2, "contest 1 1");
        fails(hall, 0, 2, "contest 0 1");
        fails(hall, 0, 3, "contest 0 0");
        fails(hall, 1, 3, "contest 1 0;contest 1 0");
        fails(hall, 0, 1, "pass 61");
        fails(hall, 1, 1, "pass 60;pass 000");
        fails(hall, 0, 1, "sweep 0");
        fails(hall, 0, 1, "sweep 241");
        fails(hall, 0, 1, "feather 7");
        fails(hall, 4, 2, "feather 6;feather 6;feather 6;pass 9;feather 6");
    }

    /** A command sees what the offers of the commands before it did. */
    private void failuresOfOffers() {
        HatReservations hall = Halls.with(0, 0, 0, 0);
        hall.placeHat(0, 0);
        fails(hall, 2, 2, "coat 1 0;lift 0;hat 1 5");
        fails(hall, 2, 2, "coat 1 0;lift 0;fetch 1");
        checks.promise(41, "run");
        checks.due(4, () -> Halls.run(hall, "coat 1 0;lift 0;touch 1;hat 0 5"));
        checks.due("B....A....", () -> Halls.line(hall, 0));
    }
}
