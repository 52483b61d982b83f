import java.util.function.Function;

/** The boundary cases of the terms about commands, and of the promises 40 to 44. */
final class CommandBoundaries extends Boundaries {
    private static final String EIGHT = "pass 1;pass 2;pass 3;pass 4;pass 5;pass 6;pass 7;pass 8";
    /** With three characters more, 60 characters. */
    private static final String SIXTY = "pass 10;pass 20;pass 30;guest 11;guest 22;sweep 240;pass ";
    private static final String[] KEYWORDS = {
        "guest ", "hat ", "lift ", "touch ", "coat ", "fetch ", "contest ", "pass ", "sweep ", "feather ",
    };

    CommandBoundaries(Checks checks) {
        super(checks);
    }

    @Override
    void all() {
        terms("The command text is a buffer of at most 60 characters.", this::sixtyCharacters);
        terms("A command text has the following form, where braces mean zero or more repetitions and brackets an "
                + "optional part:", this::form);
        terms("The commands call addGuest(), placeHat(), removeHat(), touchHat(), leaveCoat(), takeCoat(), contest(), "
                + "pass(), sweep() and giveFeather(), with the numbers of the command as parameters in their order.",
                this::calls);
        terms("A contest that is lost does not fail.", this::lostContest);
        terms("The error position of a text is the index of the first character that cannot continue any command text.",
                this::firstWrongCharacter);
        terms("If every character can, the error position is the length of the text.", this::unfinishedTexts);
        terms("Keywords are matched character by character.", this::keywords);
        promise(40, "Returns the length of the command text after the call.", this::lengths);
        promise(40, "Throws `IllegalArgumentException` if the code of the character is not from 32 to 126", this::codes);
        promise(40, "Throws `IllegalStateException` if the command text has 60 characters", this::fullText);
        promise(41, "Either all commands are carried out, or none.", this::allOrNone);
        promise(41, "The command text is empty after the call, also if an exception is thrown.", this::emptyAfterwards);
        promise(41, "The first command whose method would throw an exception is the failed command.",
                this::firstFailedCommand);
        promise(41, "Returns the number of commands.", this::numberOfCommands);
        promise(41, "Throws `IllegalArgumentException` if the text is not a command text; the error position is set and "
                + "the failure is left as it is", this::noCommandText);
        promise(41, "Throws `IllegalStateException` if a command fails; the failure is set and the error position is "
                + "left as it is", this::failingCommand);
        promise(42, "Returns the error position that was set last.", this::lastErrorPosition);
        promise(42, "Throws `NoSuchElementException` if no error position was set", this::noErrorPosition);
        promise(43, "Returns the index of the failed command of the latest run in which a command failed.",
                this::latestFailedCommand);
        promise(43, "Returns the index, from 0.", this::indexFromZero);
        promise(43, "Throws `NoSuchElementException` if no command has failed",
                () -> noFailure(hall -> hall.failedCommand()));
        promise(44, "Returns the position that the exception of the failed command has in the throws list of its "
                + "method.", this::throwsLists);
        promise(44, "Returns the position, from 1.", this::positionFromOne);
        promise(44, "Throws `NoSuchElementException` if no command has failed",
                () -> noFailure(hall -> hall.failedException()));
    }

    private void isText(int commands, String text) {
        HatReservations hall = Halls.with(9, 1, 0, 1);
        due(commands, () -> Halls.run(hall, text));
        due(MISSING, () -> hall.errorPosition());
    }

    private void isNoText(int errorPosition, String text) {
        HatReservations hall = Halls.with(9, 1, 0, 1);
        due(ARGUMENT, () -> Halls.run(hall, text));
        due(errorPosition, () -> hall.errorPosition());
        due(2, () -> hall.guestCount());
        due(0, () -> hall.now());
        due(0L, () -> hall.coveredMask());
    }

    private void sixtyCharacters() {
        HatReservations hall = new HatReservations();
        due(60, () -> Halls.write(hall, SIXTY + "061"));
        due(STATE, () -> hall.append(' '));
        due(STATE, () -> hall.run());
        due(6, () -> hall.failedCommand());
        due(60, () -> Halls.write(hall, SIXTY + "06x"));
        due(STATE, () -> hall.append('x'));
        due(ARGUMENT, () -> hall.run());
        due(59, () -> hall.errorPosition());
        due(60, () -> Halls.write(hall, SIXTY + "060"));
        // the character refused would have made a number of four digits
        due(STATE, () -> hall.append('0'));
        due(7, () -> hall.run());
        due(120, () -> hall.now());
        due(1, () -> hall.append('p'));
    }

    private void form() {
        isNoText(0, "");
        isText(1, "pass 1");
        isText(2, "pass 1;pass 1");
        isText(8, EIGHT);
        isNoText(0, ";pass 1");
        isNoText(7, "pass 1;");
        isNoText(7, "pass 1;;pass 1");
        numbers("pass ", "1", "9", "01", "60", "009", "060");
        numbers("sweep ", "1", "9", "01", "60", "001", "240");
        numbers("hat 0 ", "0", "9", "00", "39", "000", "039");
        oneDigit("lift ");
        oneDigit("touch ");
        oneDigit("fetch ");
        oneDigit("feather ");
        isText(1, "feather 1");
        isText(1, "guest 00");
        isText(1, "guest 92");
        isNoText(6, "guest ");
        isNoText(7, "guest 1");
        isNoText(8, "guest 111");
        isNoText(7, "guest 1 1");
        twoNumbers("hat ");
        twoNumbers("coat ");
        twoNumbers("contest ");
    }

    private void numbers(String start, String... numbers) {
        isNoText(start.length(), start);
        for (String number : numbers) {
            isText(1, start + number);
            isText(2, start + number + ";pass 1");
        }
        isNoText(start.length() + 3, start + "0001");
        isNoText(start.length() + 2, start + "10 ");
        isNoText(start.length(), start + "-1");
        isNoText(start.length() + 1, start + "1.");
    }

    private void oneDigit(String keyword) {
        isNoText(keyword.length(), keyword);
        isNoText(keyword.length(), keyword + " ");
        isNoText(keyword.length() + 1, keyword + "00");
        isNoText(keyword.length() + 2, keyword + "0;");
        isNoText(keyword.length(), keyword + "/");
        isNoText(keyword.length(), keyword + ":");
    }

    private void twoNumbers(String keyword) {
        isNoText(keyword.length(), keyword);
        isNoText(keyword.length() + 1, keyword + "0");
        isNoText(keyword.length() + 1, keyword + "00 1");
        isNoText(keyword.length() + 1, keyword + "0;");
        isNoText(keyword.length() + 2, keyword + "0 ");
        isNoText(keyword.length() + 2, keyword + "0  1");
        isNoText(keyword.length() + 2, keyword + "0 ;");
        isNoText(keyword.length() + 5, keyword + "0 0001");
    }

    private void sameAs(String text, Function<HatReservations, Object> call) {
        HatReservations hall = Halls.settled();
        HatReservations other = Halls.settled();
        due(1, () -> Halls.run(hall, text));
        call.apply(other);
        due(Halls.state(other), () -> Halls.state(hall));
        due(Halls.remarks(other), () -> Halls.remarks(hall));
        due(Halls.memory(other), () -> Halls.memory(hall));
    }

    private void calls() {
        sameAs("guest 02", hall -> hall.addGuest(0, 2));
        sameAs("guest 90", hall -> hall.addGuest(9, 0));
        sameAs("hat 4 6", hall -> hall.placeHat(4, 6));
        sameAs("hat 6 004", hall -> hall.placeHat(6, 4));
        sameAs("hat 6 38", hall -> hall.placeHat(6, 38));
        sameAs("lift 0", hall -> hall.removeHat(0));
        sameAs("lift 3", hall -> hall.removeHat(3));
        sameAs("touch 0", hall -> hall.touchHat(0));
        sameAs("coat 2 39", hall -> hall.leaveCoat(2, 39));
        sameAs("coat 3 0", hall -> hall.leaveCoat(3, 0));
        sameAs("fetch 6", hall -> hall.takeCoat(6));
        sameAs("contest 4 39", hall -> hall.contest(4, 39));
        sameAs("contest 6 0", hall -> hall.contest(6, 0));
        sameAs("pass 1", hall -> hall.pass(1));
        sameAs("pass 60", hall -> hall.pass(60));
        sameAs("sweep 240", hall -> hall.sweep(240));
        sameAs("sweep 20", hall -> hall.sweep(20));
        sameAs("feather 1", hall -> hall.giveFeather(1));
    }

    private void lostContest() {
        HatReservations hall = Halls.with(1, 0, 1, 0, 0, 0);
        hall.placeHat(0, 0);
        due(1, () -> Halls.run(hall, "contest 2 0"));
        due(3, () -> Halls.run(hall, "contest 1 0;contest 1 0;pass 1"));
        due(0, () -> hall.feathers(1));
        due(1, () -> hall.now());
        due(MISSING, () -> hall.failedCommand());
        due(MISSING, () -> hall.failedException());
    }

    private void firstWrongCharacter() {
        isNoText(0, "~");
        isNoText(0, "~pass 1");
        isNoText(0, " pass 1");
        isNoText(6, "pass 1~");
        isNoText(6, "pass 1 ;pass 1");
        isNoText(7, "pass 1; pass 1");
        isNoText(7, "pass 1;~~~~~~");
        isNoText(55, EIGHT + " ");
        isNoText(56, EIGHT + ";;");
        isNoText(59, EIGHT + ";coa ");
        isNoText(59, SIXTY + "01~");
        // the digit after the third one is wrong, though each before it could have been the last
        isNoText(8, "pass 1111");
        // the first of two wrong characters counts
        isNoText(5, "lift x;lift y");
        isNoText(13, "pass 60;lift y;lift z");
    }

    private void unfinishedTexts() {
        isNoText(0, "");
        String[] commands = {"guest 11", "hat 0 1", "lift 0", "touch 0", "coat 0 1", "fetch 0", "contest 0 1",
            "pass 1", "sweep 1", "feather 0"};
        for (String command : commands) {
            for (int length = 0; length < command.length(); length++) {
                isNoText(length, command.substring(0, length));
                isNoText(length + 7, "pass 1;" + command.substring(0, length));
            }
        }
        for (int length = 0; length <= 4; length++) {
            isNoText(56 + length, EIGHT + ";" + "feat".substring(0, length));
        }
        isNoText(60, "pass 10;pass 10;pass 10;pass 10;pass 10;pass 10;pass 1;hat 1");
        isNoText(60, "pass 10;pass 10;pass 10;pass 10;pass 10;pass 10;pass 10;hat ");
        isNoText(60, "pass 10;pass 10;pass 10;pass 10;pass 10;pass 1;pass 1;hat 1 ");
        isNoText(60, "pass 10;pass 10;pass 10;pass 10;pass 1;pass 1;pass 1;pass 1;");
        isNoText(60, "pass 10;pass 10;pass 10;pass 10;pass 1;pass 1;pass 1;guest 1");
    }

    private void keywords() {
        for (String keyword : KEYWORDS) {
            for (int index = 0; index < keyword.length(); index++) {
                isNoText(index, keyword.substring(0, index) + "~" + keyword.substring(index + 1) + "1");
                isNoText(index, keyword.substring(0, index));
            }
        }
        // what two keywords share, then the other keyword's next character
        isNoText(3, "coan");
        isNoText(3, "cona");
        isNoText(2, "feetch 1");
        isNoText(3, "feteather");
        isNoText(3, "hatt 1 1");
        isNoText(0, "Hat 0 1");
        isNoText(3, "hat_0 1");
    }

    private void lengths() {
        HatReservations hall = new HatReservations();
        for (int length = 1; length <= 60; length++) {
            due(length, () -> hall.append(';'));
        }
        due(ARGUMENT, () -> hall.run());
        due(1, () -> hall.append(';'));
    }

    private void codes() {
        int[] refusedCodes = {0, 9, 10, 31, 127, 128, 255, 256 + 'a', 65535};
        for (int code : refusedCodes) {
            refused(ARGUMENT, Halls::busy, hall -> hall.append((char) code));
            refused(ARGUMENT, Halls::written, hall -> hall.append((char) code));
        }
        for (int code = 32; code <= 126; code++) {
            char character = (char) code;
            HatReservations hall = new HatReservations();
            due(1, () -> hall.append(character));
        }
    }

    private void fullText() {
        refused(STATE, Halls::written, hall -> hall.append('p'));
        refused(STATE, Halls::written, hall -> hall.append((char) 32));
        refused(STATE, Halls::written, hall -> hall.append((char) 126));
        HatReservations hall = new HatReservations();
        due(59, () -> Halls.write(hall, EIGHT + ";pas"));
        due(60, () -> hall.append('s'));
        due(STATE, () -> hall.append(' '));
        // what was refused is not in the text
        due(ARGUMENT, () -> hall.run());
        due(60, () -> hall.errorPosition());
    }

    private void allOrNone() {
        String[] failing = {"pass 1;pass 2;pass 3;pass 4;pass 5;pass 6;pass 7;pass 0", "lift 0;lift 0",
            "fetch 1;fetch 4;fetch 5;fetch 6;lift 1", "sweep 1;lift 0", "contest 6 0;feather 0",
            "guest 00;guest 00", "pass 60;sweep 20;guest 11;hat 7 20;coat 7 15;lift 9"};
        for (String text : failing) {
            HatReservations hall = Halls.settled();
            due(STATE, () -> Halls.run(hall, text));
            due(Halls.state(Halls.settled()), () -> Halls.state(hall));
            due(Halls.memory(Halls.settled()), () -> Halls.memory(hall));
        }
        HatReservations hall = new HatReservations();
        due(8, () -> Halls.run(hall, EIGHT));
        due(36, () -> hall.now());
    }

    private void emptyAfterwards() {
        HatReservations hall = new HatReservations();
        due(8, () -> Halls.run(hall, EIGHT));
        due(1, () -> hall.append('p'));
        due(ARGUMENT, () -> hall.run());
        due(1, () -> hall.append('p'));
        due(6, () -> Halls.write(hall, "ass 0"));
        due(STATE, () -> hall.run());
        due(1, () -> hall.append('p'));
        due(6, () -> Halls.write(hall, "ass 1"));
        due(1, () -> hall.run());
        due(ARGUMENT, () -> hall.run());
        due(0, () -> hall.errorPosition());
        due(37, () -> hall.now());
        nothingIsLeftOfLongerTexts();
    }

    /** Each start of a text that was run before, which would be continued by what it left. */
    private void nothingIsLeftOfLongerTexts() {
        String whole = "coat 1 23;guest 02;contest 1 234;sweep 60;feather 0";
        for (int length = 0; length < whole.length(); length++) {
            int position = length;
            String start = whole.substring(0, length);
            HatReservations hall = new HatReservations();
            due(STATE, () -> Halls.run(hall, whole));
            boolean isText = start.matches("(.*;)?(coat 1 2.?|guest 02|contest 1 2.?.?|sweep 6.?)");
            due(isText ? STATE : ARGUMENT, () -> Halls.run(hall, start));
            due(isText ? MISSING : (Object) position, () -> hall.errorPosition());
        }
    }

    private void failsAt(int index, int exception, String text) {
        HatReservations hall = Halls.settled();
        due(STATE, () -> Halls.run(hall, text));
        due(index, () -> hall.failedCommand());
        due(exception, () -> hall.failedException());
    }

    private void firstFailedCommand() {
        failsAt(0, 1, "lift 9;hat 0 0");
        failsAt(1, 2, "pass 1;hat 0 0;lift 9");
        failsAt(7, 1, "pass 1;pass 2;pass 3;pass 4;pass 5;pass 6;pass 7;pass 0");
        // the commands before it have been carried out when it is its turn
        failsAt(1, 2, "lift 3;lift 3");
        failsAt(2, 3, "hat 6 5;pass 1;hat 1 4");
        failsAt(1, 2, "coat 3 0;coat 3 0");
    }

    private void numberOfCommands() {
        StringBuilder text = new StringBuilder("pass 1");
        for (int commands = 1; commands <= 8; commands++) {
            isText(commands, text.toString());
            text.append(";pass 1");
        }
        isText(2, "pass 1;feather 1");
    }

    private void noCommandText() {
        String[] texts = {"", "p", "pass", "pass 1;", "pass 1;~", "lift 0;lift 0;lift", EIGHT + ";pass"};
        for (String text : texts) {
            HatReservations hall = Halls.settled();
            due(ARGUMENT, () -> Halls.run(hall, text));
            due(text.length() - (text.contains("~") ? 1 : 0), () -> hall.errorPosition());
            due(1, () -> hall.failedCommand());
            due(2, () -> hall.failedException());
            due(Halls.state(Halls.settled()), () -> Halls.state(hall));
            due(Halls.memory(Halls.settled()), () -> Halls.memory(hall));
        }
    }

    private void failingCommand() {
        HatReservations hall = Halls.settled();
        due(STATE, () -> Halls.run(hall, "hat 1 15"));
        due(0, () -> hall.failedCommand());
        due(3, () -> hall.failedException());
        due(5, () -> hall.errorPosition());
        due(Halls.state(Halls.settled()), () -> Halls.state(hall));
        HatReservations fresh = new HatReservations();
        due(STATE, () -> Halls.run(fresh, "lift 0"));
        due(MISSING, () -> fresh.errorPosition());
        due(0, () -> fresh.failedCommand());
        due(1, () -> fresh.failedException());
    }

    private void lastErrorPosition() {
        HatReservations hall = new HatReservations();
        due(ARGUMENT, () -> Halls.run(hall, EIGHT + ";pass"));
        due(60, () -> hall.errorPosition());
        due(ARGUMENT, () -> hall.run());
        due(0, () -> hall.errorPosition());
        due(ARGUMENT, () -> Halls.run(hall, "pa"));
        due(2, () -> hall.errorPosition());
        due(1, () -> Halls.run(hall, "pass 1"));
        due(2, () -> hall.errorPosition());
        due(STATE, () -> Halls.run(hall, "lift 0"));
        due(2, () -> hall.errorPosition());
    }

    private void noErrorPosition() {
        refused(MISSING, HatReservations::new, hall -> hall.errorPosition());
        HatReservations hall = new HatReservations();
        due(1, () -> Halls.run(hall, "pass 1"));
        due(STATE, () -> Halls.run(hall, "pass 0"));
        due(MISSING, () -> hall.errorPosition());
        due(ARGUMENT, () -> hall.run());
        due(0, () -> hall.errorPosition());
    }

    private void latestFailedCommand() {
        HatReservations hall = new HatReservations();
        due(STATE, () -> Halls.run(hall, "pass 1;pass 1;lift 0"));
        due(2, () -> hall.failedCommand());
        due(STATE, () -> Halls.run(hall, "pass 1;pass 0"));
        due(1, () -> hall.failedCommand());
        due(1, () -> Halls.run(hall, "pass 1"));
        due(ARGUMENT, () -> Halls.run(hall, "pass 0;"));
        due(1, () -> hall.failedCommand());
    }

    private void indexFromZero() {
        StringBuilder passes = new StringBuilder();
        for (int index = 0; index < 8; index++) {
            int failed = index;
            HatReservations hall = new HatReservations();
            due(STATE, () -> Halls.run(hall, passes + "pass 0"));
            due(failed, () -> hall.failedCommand());
            passes.append("pass 1;");
        }
    }

    private void noFailure(Function<HatReservations, Object> call) {
        refused(MISSING, HatReservations::new, call);
        HatReservations hall = new HatReservations();
        due(1, () -> Halls.run(hall, "pass 1"));
        due(ARGUMENT, () -> Halls.run(hall, "pass 0;"));
        due(IllegalArgumentException.class, () -> hall.pass(0));
        due(MISSING, () -> call.apply(hall));
        due(STATE, () -> Halls.run(hall, "pass 0"));
        due(false, () -> MISSING.equals(call.apply(hall)));
    }

    private void throwsLists() {
        failsAt(0, 1, "guest 03");
        failsAt(1, 2, "guest 00;guest 00");
        failsAt(1, 1, "guest 00;guest 09");
        failsAt(0, 1, "hat 7 5");
        failsAt(0, 1, "hat 1 40");
        failsAt(0, 2, "hat 0 5");
        failsAt(0, 3, "hat 1 17");
        failsAt(0, 1, "lift 7");
        failsAt(0, 2, "lift 1");
        failsAt(0, 1, "touch 7");
        failsAt(0, 2, "touch 1");
        failsAt(0, 1, "coat 7 15");
        failsAt(0, 1, "coat 1 40");
        failsAt(0, 2, "coat 1 20");
        failsAt(0, 3, "coat 2 20");
        failsAt(0, 3, "coat 0 14");
        failsAt(0, 3, "coat 2 15");
        failsAt(0, 1, "fetch 7");
        failsAt(0, 2, "fetch 0");
        failsAt(0, 1, "contest 7 15");
        failsAt(0, 1, "contest 1 40");
        failsAt(0, 2, "contest 1 20");
        failsAt(0, 2, "contest 0 20");
        failsAt(0, 3, "contest 0 0");
        failsAt(0, 1, "pass 0");
        failsAt(0, 1, "pass 61");
        failsAt(0, 1, "sweep 0");
        failsAt(0, 1, "sweep 241");
        failsAt(0, 1, "feather 7");
        failsAt(0, 2, "feather 0");
    }

    private void positionFromOne() {
        HatReservations hall = Halls.with(0, 0, 0, 0);
        hall.placeHat(0, 0);
        due(STATE, () -> Halls.run(hall, "hat 2 0"));
        due(1, () -> hall.failedException());
        due(STATE, () -> Halls.run(hall, "hat 0 0"));
        due(2, () -> hall.failedException());
        due(STATE, () -> Halls.run(hall, "hat 1 0"));
        due(3, () -> hall.failedException());
        due(1, () -> Halls.run(hall, "hat 1 1"));
        due(3, () -> hall.failedException());
    }
}
