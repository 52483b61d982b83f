/** The boundary cases of the terms: offers and contests. */
final class OfferBoundaries extends Boundaries {
    OfferBoundaries(Checks checks) {
        super(checks);
    }

    @Override
    void all() {
        terms("Chairs that have become uncovered by removeHat(), sweep() or contest() are offered at the end of the "
                + "call, in ascending order of their numbers.", this::ascendingOrder);
        terms("A chair that is covered when its turn comes is not offered.", this::coveredChairs);
        terms("When a chair is offered, the coats of its queue are looked at from the first one on.", this::firstCoat);
        terms("If the hat of the owner of a coat is placed at that moment, also by an earlier offer of the same call, "
                + "the coat lapses and leaves the queue.", this::lapses);
        terms("Otherwise the coat leaves the queue, the hat of its owner is placed on the chair, and the offer ends.",
                this::takes);
        terms("The coats behind it stay in the queue.", this::coatsBehind);
        terms("The defender is the guest whose hat covers the chair.", this::defender);
        terms("The challenger wins if the challenger has more feathers than the defender.", this::moreFeathers);
        terms("If the challenger loses, the challenger loses one feather, if there is one, and nothing else happens.",
                this::loses);
        terms("If the challenger wins, the following happens in this order.", this::inThisOrder);
        terms("First, the challenger loses as many feathers as the defender has.", this::feathersOfTheWinner);
        terms("Second, if the hat of the defender is placed on the contested chair, this hat is removed.",
                this::hatOfTheDefender);
        terms("Otherwise the hat of the defender does not cover the contested chair any more, nor the chairs that it "
                + "covers beyond that chair, seen from the chair on which it is placed.", this::chairsBeyond);
        terms("Third, the hat of the challenger is placed on the contested chair, as described under Hats.",
                this::hatOfTheChallenger);
        terms("Fourth, the chairs that became uncovered are offered.", this::offersOfAContest);
        terms("The coat of the challenger stays where it is.", this::coatOfTheChallenger);
    }

    private void ascendingOrder() {
        HatReservations removed = Halls.with(0, 2, 0, 1, 0, 1, 0, 0);
        removed.placeHat(0, 12);
        removed.leaveCoat(3, 14);
        removed.leaveCoat(2, 12);
        removed.leaveCoat(1, 11);
        due(5, () -> removed.removeHat(0));
        due("bBb.D.....", () -> Halls.line(removed, 1));
        HatReservations contested = Halls.with(0, 2, 0, 1, 0, 1, 0, 0, 1, 0);
        contested.placeHat(0, 12);
        contested.leaveCoat(3, 13);
        contested.leaveCoat(2, 11);
        contested.leaveCoat(1, 10);
        due(true, () -> contested.contest(4, 12));
        due("BbED......", () -> Halls.line(contested, 1));
        // the hat of the guest 0 is on the higher chair
        HatReservations swept = Halls.with(0, 0, 0, 0, 0, 1, 0, 1);
        swept.placeHat(0, 15);
        swept.placeHat(1, 14);
        swept.leaveCoat(3, 15);
        swept.leaveCoat(2, 14);
        swept.pass(5);
        due(2, () -> swept.sweep(5));
        due("...cCc....", () -> Halls.line(swept, 1));
        due(15, () -> swept.coatChair(3));
        atTheEndOfTheCall();
    }

    /** Each of the two idle hats has its coat under the other one, so both must be off before any offer. */
    private void atTheEndOfTheCall() {
        HatReservations hall = Halls.with(0, 0, 0, 0);
        hall.placeHat(0, 0);
        hall.placeHat(1, 39);
        hall.leaveCoat(0, 39);
        hall.leaveCoat(1, 0);
        hall.pass(1);
        due(2, () -> hall.sweep(1));
        due("B.........", () -> Halls.line(hall, 0));
        due(".........A", () -> Halls.line(hall, 3));
        due(0, () -> hall.lapsedTotal());
        due(2, () -> hall.offersTaken());
    }

    private void coveredChairs() {
        HatReservations hall = Halls.with(0, 1, 0, 1, 0, 0, 0, 0);
        hall.placeHat(0, 15);
        hall.leaveCoat(1, 14);
        hall.leaveCoat(2, 15);
        hall.leaveCoat(3, 15);
        hall.placeHat(2, 30);
        hall.removeHat(0);
        // 15 is under the brim of the guest 1: no coat on it lapses, and none takes it
        due("...bBb....", () -> Halls.line(hall, 1));
        due(2, () -> hall.coatCount(15));
        due(2, () -> hall.coatOwner(15, 0));
        due(0, () -> hall.lapsedTotal());
        due(1, () -> hall.offersTaken());
        hall.removeHat(1);
        due(".....D....", () -> Halls.line(hall, 1));
        due(1, () -> hall.lapsedTotal());
        due(2, () -> hall.offersTaken());
        underTheBrimOfTheChallenger();
    }

    private void underTheBrimOfTheChallenger() {
        HatReservations hall = Halls.with(0, 2, 1, 1, 0, 0, 0, 0);
        hall.placeHat(0, 15);
        hall.leaveCoat(2, 16);
        hall.leaveCoat(3, 17);
        due(true, () -> hall.contest(1, 15));
        due("....bBbD..", () -> Halls.line(hall, 1));
        due(16, () -> hall.coatChair(2));
        due(1, () -> hall.offersTaken());
    }

    private void firstCoat() {
        int[][] orders = {{1, 2, 3}, {1, 3, 2}, {2, 1, 3}, {2, 3, 1}, {3, 1, 2}, {3, 2, 1}};
        for (int[] order : orders) {
            for (int placed = 0; placed <= 3; placed++) {
                HatReservations hall = queue(order, placed);
                int taker = placed < 3 ? order[placed] : -1;
                due(1, () -> hall.removeHat(0));
                due(taker < 0 ? (Object) MISSING : taker, () -> hall.covererOf(20));
            }
        }
    }

    /** The chair 20 with three coats, the owners of the first of which have placed hats. */
    private static HatReservations queue(int[] order, int placed) {
        HatReservations hall = Halls.with(0, 0, 0, 0, 0, 0, 0, 0);
        hall.placeHat(0, 20);
        for (int position = 0; position < order.length; position++) {
            hall.leaveCoat(order[position], 20);
        }
        for (int position = 0; position < placed; position++) {
            hall.placeHat(order[position], 30 + position);
        }
        return hall;
    }

    private void lapses() {
        for (int placed = 0; placed <= 3; placed++) {
            int lapsed = placed;
            HatReservations hall = queue(new int[] {2, 3, 1}, placed);
            hall.removeHat(0);
            due(lapsed, () -> hall.lapsedTotal());
            due(Math.max(0, 2 - lapsed), () -> hall.coatCount(20));
            due(lapsed == 0, () -> !hall.isPlaced(3) && !hall.isPlaced(1));
            for (int guest = 1; guest <= 3; guest++) {
                int owner = guest;
                due(owner == 3 && lapsed == 0 || owner == 1 && lapsed <= 1, () -> hall.hasCoatLeft(owner));
            }
        }
        placedByTheContest();
        placedByAnEarlierOffer();
        placedBeforeTheCallAlone();
    }

    /** The hat of the challenger is placed in the very call that offers the chair with its coat. */
    private void placedByTheContest() {
        HatReservations hall = Halls.with(2, 2, 5, 0, 0, 0);
        hall.placeHat(0, 25);
        hall.leaveCoat(1, 27);
        hall.leaveCoat(2, 27);
        due(true, () -> hall.contest(1, 26));
        due("...aaABC..", () -> Halls.line(hall, 2));
        due(false, () -> hall.hasCoatLeft(1));
        due(1, () -> hall.lapsedTotal());
        due(1, () -> hall.offersTaken());
    }

    /** Who takes a chair by an offer has no second coat that a later offer of the call could find. */
    private void placedByAnEarlierOffer() {
        HatReservations hall = Halls.with(0, 2, 0, 0, 0, 0, 0, 0);
        hall.placeHat(0, 25);
        hall.leaveCoat(1, 23);
        hall.takeCoat(1);
        hall.leaveCoat(1, 24);
        hall.leaveCoat(2, 25);
        hall.leaveCoat(3, 25);
        hall.removeHat(0);
        due("....BC....", () -> Halls.line(hall, 2));
        due(0, () -> hall.lapsedTotal());
        due(2, () -> hall.offersTaken());
        due(false, () -> hall.hasCoatLeft(1));
        due(25, () -> hall.coatChair(3));
    }

    /** The hat was placed when the call began, but is not at the moment of the offer. */
    private void placedBeforeTheCallAlone() {
        HatReservations hall = Halls.with(0, 0, 5, 1);
        hall.placeHat(0, 5);
        hall.leaveCoat(1, 5);
        hall.contest(1, 5);
        due(3, () -> hall.removeHat(1));
        due("....bBb...", () -> Halls.line(hall, 0));
        due(0, () -> hall.lapsedTotal());
    }

    private void takes() {
        HatReservations hall = queue(new int[] {2, 3, 1}, 0);
        hall.pass(9);
        hall.removeHat(0);
        due(false, () -> hall.hasCoatLeft(2));
        due(20, () -> hall.hatChair(2));
        due(0, () -> hall.idleMinutes(2));
        due(2, () -> hall.coatCount(20));
        due(false, () -> hall.isPlaced(3));
        due(1, () -> hall.offersTaken());
        HatReservations last = queue(new int[] {2, 3, 1}, 2);
        last.removeHat(0);
        due(20, () -> last.hatChair(1));
        due(0, () -> last.coatCount(20));
        due(1, () -> last.offersTaken());
        HatReservations none = queue(new int[] {2, 3, 1}, 3);
        none.removeHat(0);
        due(false, () -> none.isCovered(20));
        due(0, () -> none.offersTaken());
        HatReservations empty = queue(new int[0], 0);
        empty.removeHat(0);
        due(false, () -> empty.isCovered(20));
        due(0, () -> empty.offersTaken());
    }

    private void coatsBehind() {
        HatReservations hall = queue(new int[] {2, 3, 1}, 0);
        hall.removeHat(0);
        due(3, () -> hall.coatOwner(20, 0));
        due(1, () -> hall.coatOwner(20, 1));
        due(MISSING, () -> hall.coatOwner(20, 2));
        due(3, () -> hall.nextClaimant(20));
        due(2, () -> hall.leaveCoat(0, 20));
        HatReservations lapsed = queue(new int[] {2, 3, 1}, 1);
        lapsed.removeHat(0);
        due(1, () -> lapsed.coatOwner(20, 0));
        due(1, () -> lapsed.coatCount(20));
    }

    private void defender() {
        // chairs 2 to 4 are of the guest 0, chairs 5 and 6 of the guest 1
        HatReservations hall = Halls.with(2, 1, 4, 1, 3, 0);
        hall.placeHat(0, 3);
        hall.placeHat(1, 5);
        due(true, () -> hall.wouldWin(2, 2));
        due(true, () -> hall.wouldWin(2, 4));
        due(false, () -> hall.wouldWin(2, 5));
        due(false, () -> hall.wouldWin(2, 6));
        due(true, () -> hall.contest(2, 4));
        due("..aACBb...", () -> Halls.line(hall, 0));
        due(1, () -> hall.feathers(2));
        due(MISSING, () -> Halls.with(0, 0).contest(0, 7));
    }

    private static HatReservations rivals(int defender, int challenger) {
        HatReservations hall = Halls.with(defender, 2, challenger, 1, 0, 0, 0, 0);
        hall.placeHat(0, 15);
        hall.leaveCoat(2, 13);
        hall.leaveCoat(1, 15);
        hall.pass(7);
        return hall;
    }

    private void moreFeathers() {
        for (int defender = 0; defender <= 9; defender++) {
            for (int challenger = 0; challenger <= 9; challenger++) {
                boolean wins = challenger > defender;
                HatReservations hall = rivals(defender, challenger);
                due(wins, () -> hall.contest(1, 15));
                due(wins, () -> hall.isPlaced(1));
                due(wins ? 1 : 0, () -> hall.contestsWon());
            }
        }
    }

    private void loses() {
        for (int defender = 0; defender <= 9; defender++) {
            for (int challenger = 0; challenger <= defender; challenger++) {
                HatReservations hall = rivals(defender, challenger);
                due(false, () -> hall.contest(1, 14));
                String asIf = Halls.state(rivals(defender, Math.max(0, challenger - 1)));
                due(asIf, () -> Halls.state(hall));
            }
        }
    }

    private void inThisOrder() {
        // the brim of the challenger reaches the chairs that the defender gave up, before they are offered
        HatReservations hall = Halls.with(0, 2, 1, 2, 0, 0, 0, 0);
        hall.placeHat(0, 15);
        hall.leaveCoat(2, 14);
        hall.leaveCoat(3, 17);
        due(true, () -> hall.contest(1, 16));
        due("...aaABbb.", () -> Halls.line(hall, 1));
        due(17, () -> hall.coatChair(3));
        due(0, () -> hall.offersTaken());
        HatReservations whole = Halls.with(0, 2, 1, 1, 0, 2, 0, 2);
        whole.placeHat(0, 15);
        whole.leaveCoat(2, 13);
        whole.leaveCoat(3, 17);
        due(true, () -> whole.contest(1, 15));
        due(".ccCbBbDdd", () -> Halls.line(whole, 1));
    }

    private void feathersOfTheWinner() {
        for (int defender = 0; defender <= 8; defender++) {
            for (int challenger = defender + 1; challenger <= 9; challenger++) {
                int had = defender;
                int left = challenger - defender;
                HatReservations hall = rivals(defender, challenger);
                hall.contest(1, 17);
                due(left, () -> hall.feathers(1));
                due(had, () -> hall.feathers(0));
            }
        }
    }

    private void hatOfTheDefender() {
        for (int brim = 0; brim <= 2; brim++) {
            for (int chair = 20; chair < 30; chair++) {
                int contested = chair;
                HatReservations hall = Halls.with(0, brim, 1, 0);
                hall.placeHat(0, chair);
                hall.contest(1, chair);
                due(false, () -> hall.isPlaced(0));
                due(0, () -> hall.coverSize(0));
                due(MISSING, () -> hall.hatChair(0));
                due(1L << contested, () -> hall.coveredMask());
                due(0, () -> hall.sweptTotal());
            }
        }
    }

    private void chairsBeyond() {
        beyond(13, 15, "...BaAaa..");
        beyond(14, 15, "....BAaa..");
        beyond(16, 15, "...aaAB...");
        beyond(17, 15, "...aaAaB..");
        beyond(11, 10, "AB........");
        beyond(12, 10, "AaB.......");
        beyond(10, 11, "BAaa......");
        beyond(18, 19, "........BA");
        beyond(17, 19, ".......BaA");
    }

    private void beyond(int contested, int hatChair, String line) {
        HatReservations hall = Halls.with(0, 2, 1, 0);
        hall.placeHat(0, hatChair);
        hall.pass(3);
        due(true, () -> hall.contest(1, contested));
        due(line, () -> Halls.line(hall, 1));
        due(hatChair, () -> hall.hatChair(0));
        due(3, () -> hall.idleMinutes(0));
    }

    private void hatOfTheChallenger() {
        HatReservations hall = Halls.with(0, 2, 1, 2, 0, 0);
        hall.placeHat(0, 15);
        hall.placeHat(2, 18);
        hall.pass(3);
        // on the left the defender's chairs end its brim, on the right the chair 18 does
        due(true, () -> hall.contest(1, 16));
        due("...aaABbC.", () -> Halls.line(hall, 1));
        due(2, () -> hall.coverSize(1));
        due(16, () -> hall.hatChair(1));
        due(0, () -> hall.idleMinutes(1));
        HatReservations edge = Halls.with(0, 0, 1, 2);
        edge.placeHat(0, 30);
        due(true, () -> edge.contest(1, 30));
        due("Bbb.......", () -> Halls.line(edge, 3));
        due("..........", () -> Halls.line(edge, 2));
    }

    private void offersOfAContest() {
        HatReservations part = Halls.with(0, 2, 1, 0, 0, 0, 0, 0, 0, 0);
        part.placeHat(0, 15);
        part.leaveCoat(2, 14);
        part.leaveCoat(3, 16);
        part.leaveCoat(4, 17);
        due(true, () -> part.contest(1, 16));
        // 14 has not become uncovered, 16 is the challenger's
        due("...aaABE..", () -> Halls.line(part, 1));
        due(1, () -> part.offersTaken());
        due(16, () -> part.coatChair(3));
        HatReservations whole = Halls.with(0, 2, 1, 0, 0, 0, 0, 0, 0, 0);
        whole.placeHat(0, 15);
        whole.leaveCoat(2, 13);
        whole.leaveCoat(3, 15);
        whole.leaveCoat(4, 17);
        due(true, () -> whole.contest(1, 15));
        due("...C.B.E..", () -> Halls.line(whole, 1));
        due(2, () -> whole.offersTaken());
        HatReservations nothing = Halls.with(0, 1, 1, 0, 0, 0);
        nothing.placeHat(0, 15);
        nothing.leaveCoat(2, 15);
        due(true, () -> nothing.contest(1, 16));
        due("....aAB...", () -> Halls.line(nothing, 1));
        due(0, () -> nothing.offersTaken());
    }

    private void coatOfTheChallenger() {
        HatReservations hall = Halls.with(0, 1, 5, 0, 0, 0, 0, 0);
        hall.placeHat(0, 15);
        hall.leaveCoat(2, 15);
        hall.leaveCoat(1, 15);
        hall.leaveCoat(3, 15);
        due(true, () -> hall.contest(1, 15));
        due(15, () -> hall.coatChair(1));
        due(1, () -> hall.coatOwner(15, 1));
        due(3, () -> hall.coatCount(15));
        due(0, () -> hall.lapsedTotal());
        HatReservations elsewhere = Halls.with(0, 1, 5, 0, 0, 0);
        elsewhere.placeHat(0, 15);
        elsewhere.placeHat(2, 30);
        elsewhere.leaveCoat(1, 30);
        due(true, () -> elsewhere.contest(1, 14));
        due(30, () -> elsewhere.coatChair(1));
        HatReservations lost = rivals(5, 5);
        due(false, () -> lost.contest(1, 15));
        due(15, () -> lost.coatChair(1));
        due(1, () -> lost.coatCount(15));
    }
}
