/** Halls that the tests begin with. */
final class Halls {
    private Halls() {
    }

    /** A hall with the guests of the pairs: feathers, brim, feathers, brim, .. */
    static HatReservations with(int... feathersAndBrims) {
        HatReservations hall = new HatReservations();
        for (int index = 0; index < feathersAndBrims.length; index += 2) {
            hall.addGuest(feathersAndBrims[index], feathersAndBrims[index + 1]);
        }
        return hall;
    }

    static int write(HatReservations hall, String text) {
        int length = 0;
        for (int index = 0; index < text.length(); index++) {
            length = hall.append(text.charAt(index));
        }
        return length;
    }

    static int run(HatReservations hall, String text) {
        write(hall, text);
        return hall.run();
    }

    static String line(HatReservations hall, int row) {
        int length = hall.describeRow(row);
        StringBuilder line = new StringBuilder();
        for (int index = 0; index < length; index++) {
            line.append(hall.lineAt(index));
        }
        return line.toString();
    }

    /** Everything that changes can change, as far as the face shows it. */
    static String state(HatReservations hall) {
        StringBuilder state = new StringBuilder();
        state.append(hall.now()).append(' ').append(hall.sweptTotal()).append(' ').append(hall.lapsedTotal());
        state.append(' ').append(hall.offersTaken()).append(' ').append(hall.contestsWon());
        for (int guest = 0; guest < hall.guestCount(); guest++) {
            state.append(" g").append(hall.feathers(guest)).append('b').append(hall.brim(guest));
            state.append('c').append(hall.coverSize(guest));
            if (hall.isPlaced(guest)) {
                state.append('h').append(hall.hatChair(guest)).append('i').append(hall.idleMinutes(guest));
            }
            if (hall.hasCoatLeft(guest)) {
                state.append('k').append(hall.coatChair(guest));
            }
        }
        for (int chair = 0; chair < 40; chair++) {
            state.append(' ').append(hall.isCovered(chair) ? hall.covererOf(chair) : -1);
            for (int position = 0; position < hall.coatCount(chair); position++) {
                state.append('q').append(hall.coatOwner(chair, position));
            }
        }
        return state.toString();
    }

    /** Seven guests, in whose hall most kinds of calls have left something. */
    static HatReservations settled() {
        HatReservations hall = with(9, 2, 0, 0, 3, 1, 3, 0, 5, 2, 0, 0, 1, 1);
        hall.placeHat(0, 15);
        hall.leaveCoat(1, 15);
        hall.leaveCoat(4, 15);
        hall.save();
        hall.placeHat(2, 0);
        hall.placeHat(3, 39);
        hall.leaveCoat(5, 15);
        hall.leaveCoat(6, 13);
        hall.pass(20);
        hall.touchHat(2);
        Checks.answer(() -> run(hall, "pass x"));
        Checks.answer(() -> run(hall, "pass 1;lift 1"));
        hall.describeRow(1);
        return hall;
    }

    /** The settled hall with a command text begun. */
    static HatReservations busy() {
        HatReservations hall = settled();
        write(hall, "pa");
        return hall;
    }

    /** The busy hall with an eighth guest. */
    static HatReservations full() {
        HatReservations hall = busy();
        hall.addGuest(4, 1);
        return hall;
    }

    /** The settled hall without a change that can be undone. */
    static HatReservations restored() {
        HatReservations hall = settled();
        hall.save();
        hall.restore();
        return hall;
    }

    /** The settled hall with a command text of 60 characters. */
    static HatReservations written() {
        HatReservations hall = settled();
        write(hall, "pass 1;pass 2;pass 3;pass 4;pass 5;pass 6;pass 7;pass 8;pass");
        return hall;
    }

    /** What is neither undone nor saved, but for the command text. */
    static String remarks(HatReservations hall) {
        StringBuilder remarks = new StringBuilder();
        remarks.append(Checks.answer(() -> hall.errorPosition())).append(' ');
        remarks.append(Checks.answer(() -> hall.failedCommand())).append(' ');
        remarks.append(Checks.answer(() -> hall.failedException())).append(' ');
        for (int index = 0; index < 10; index++) {
            int place = index;
            remarks.append(Checks.answer(() -> hall.lineAt(place)));
        }
        return remarks.toString();
    }

    /** The changes that can be undone, the command text and the snapshot, all of which this uses up. */
    static String memory(HatReservations hall) {
        StringBuilder memory = new StringBuilder();
        Object left = Checks.answer(() -> hall.undo());
        for (int change = 0; change < 10 && left instanceof Integer; change++) {
            memory.append(left).append(' ').append(hall.guestCount()).append(' ').append(hall.coveredMask());
            memory.append(' ').append(hall.now()).append('\n');
            left = Checks.answer(() -> hall.undo());
        }
        memory.append(Checks.answer(() -> write(hall, "ss 7")));
        memory.append(Checks.answer(() -> hall.run())).append(' ').append(hall.now()).append('\n');
        memory.append(Checks.answer(() -> hall.restore())).append('\n').append(state(hall));
        return memory.toString();
    }

    /** All that can be told of a hall, which this uses up. */
    static String everything(HatReservations hall) {
        return state(hall) + "\n" + remarks(hall) + "\n" + memory(hall);
    }
}
