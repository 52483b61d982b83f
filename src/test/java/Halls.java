/** Halls that the tests begin with. */
final class Halls {
    private Halls() {
    }

    /** A hall with the guests of the pairs: feathers, brim, feathers, brim, .. */
    static HatReservations with(int... feathersAndBrims) {
        HatReservations hall = new HatReservations();
        for (int index = 0; index < feathersAndBrims.length; index += 2) {
            hall.addGuest(feathersAndBrims[index], feathersAndBrims[index + 1]);
        }
        return hall;
    }

    static int write(HatReservations hall, String text) {
        int length = 0;
        for (int index = 0; index < text.length(); index++) {
            length = hall.append(text.charAt(index));
        }
        return length;
    }

    static int run(HatReservations hall, String text) {
        write(hall, text);
        return hall.run();
    }

    static String line(HatReservations hall, int row) {
        int length = hall.describeRow(row);
        StringBuilder line = new StringBuilder();
        for (int index = 0; index < length; index++) {
            line.append(hall.lineAt(index));
        }
        return line.toString();
    }

    /** Everything that changes can change, as far as the face shows it. */
    static String state(HatReservations hall) {
        StringBuilder state = new StringBuilder();
        state.append(hall.now()).append(' ').append(hall.sweptTotal()).append(' ').append(hall.lapsedTotal());
        state.append(' ').append(hall.offersTaken()).append(' ').append(hall.contestsWon());
        for (int guest = 0; guest < hall.guestCount(); guest++) {
            state.append(" g").append(hall.feathers(guest)).append('b').append(hall.brim(guest));
            state.append('c').append(hall.coverSize(guest));
            if (hall.isPlaced(guest)) {
                state.append('h').append(hall.hatChair(guest)).append('i').append(hall.idleMinutes(guest));
            }
            if (hall.hasCoatLeft(guest)) {
                state.append('k').append(hall.coatChair(guest));
            }
        }
        for (int chair = 0; chair < 40; chair++) {
            state.append(' ').append(hall.isCovered(chair) ? hall.covererOf(chair) : -1);
            for (int position = 0; position < hall.coatCount(chair); position++) {
                state.append('q').append(hall.coatOwner(chair, position));
            }
        }
        return state.toString();
    }
}
