/** What "Terms" says of a minute, each sentence by itself. */
public final class MinutesTest {
    public static void main(String[] args) {
        escortsAreGiven();
        escortsStepOn();
        escortsArrive();
        bothStepOn();
        lightOrDark();
        pictures();
        theEnd();
        Due.end();
    }

    private static void escortsAreGiven() {
        Due.term("First the walks that wait, by rising numbers, each get a free escort, as long as there is one:"
                + " the one with the shortest way to the street of the walk, of several the one with the highest rank,"
                + " of several the one with the lowest number");
        for (int turn = 0; turn < 8; turn++) {
            nearestOfAll(turn);
            lowerWalksChooseFirst(turn);
            highestRankOfAsNear(turn);
            nearnessAheadOfRank(turn);
            lowestNumberOfAlike(turn);
        }
        noneIsLeft();
        freedInTheMinuteBefore();
        atTheLowestAndTheHighestRank();
        alikeBehindComplaintAndPraise();
    }

    private static void place(LanternDesk desk, int turn, int... streets) {
        for (int escort = 0; escort < streets.length; escort++) {
            desk.place(escort, (streets[escort] + turn) % 8);
        }
    }

    private static void ask(LanternDesk desk, int turn, int from, int to) {
        desk.ask((from + turn) % 8, (to + turn) % 8);
    }

    private static void nearestOfAll(int turn) {
        int[][] places = {{4, 3, 2, 7}, {4, 5, 6, 1}, {7, 6, 5, 0}, {4, 4, 4, 3}, {4, 4, 4, 5}, {2, 2, 6, 0}};
        for (int[] streets : places) {
            LanternDesk desk = new LanternDesk();
            place(desk, turn, streets);
            ask(desk, turn, 0, 4);
            desk.pass(1);
            Scenes.escorts(desk, 3);
        }
    }

    /** The first walk takes the escort of whom the second one has more need. */
    private static void lowerWalksChooseFirst(int turn) {
        LanternDesk desk = new LanternDesk();
        place(desk, turn, 4, 0, 4, 4);
        ask(desk, turn, 1, 2);
        ask(desk, turn, 0, 1);
        ask(desk, turn, 3, 2);
        desk.pass(1);
        Scenes.escorts(desk, 1, 0, 2);
    }

    private static void highestRankOfAsNear(int turn) {
        LanternDesk desk = new LanternDesk();
        desk.complain(Scenes.walkWith(desk, 2), true);
        place(desk, turn, 1, 7, 7, 1);
        ask(desk, turn, 0, 4);
        ask(desk, turn, 0, 4);
        desk.pass(1);
        Scenes.escorts(desk, 2, 2, 0);
        LanternDesk far = new LanternDesk();
        far.complain(Scenes.walkWith(far, 3), true);
        place(far, turn, 4, 4, 4, 4);
        ask(far, turn, 0, 4);
        far.pass(1);
        Scenes.escorts(far, 3, 3);
    }

    private static void nearnessAheadOfRank(int turn) {
        LanternDesk desk = new LanternDesk();
        desk.complain(Scenes.walkWith(desk, 0), true);
        desk.complain(Scenes.walkWith(desk, 3), false);
        place(desk, turn, 2, 2, 2, 7);
        ask(desk, turn, 0, 4);
        desk.pass(1);
        Scenes.escorts(desk, 0, 3, 3);
    }

    private static void lowestNumberOfAlike(int turn) {
        LanternDesk desk = new LanternDesk();
        place(desk, turn, 2, 7, 1, 7);
        ask(desk, turn, 0, 4);
        ask(desk, turn, 0, 4);
        ask(desk, turn, 0, 4);
        ask(desk, turn, 0, 4);
        desk.pass(1);
        Scenes.escorts(desk, 1, 2, 3, 0);
        LanternDesk other = new LanternDesk();
        place(other, turn, 3, 3, 1, 7);
        ask(other, turn, 0, 4);
        other.pass(1);
        Scenes.escorts(other, 2);
    }

    private static void noneIsLeft() {
        LanternDesk desk = new LanternDesk();
        for (int i = 0; i < 60; i++) {
            desk.ask(1, 0);
        }
        desk.pass(1);
        Scenes.escorts(desk, 0, 1, 2, 3, -1, -1);
        Scenes.states(desk, 2, 2, 2, 2, 0, 0);
        Due.is("state(59)", desk.state(59), 0);
        Due.is("escortOf(59)", desk.escortOf(59), -1);
        desk.pass(2);
        Scenes.escorts(desk, 0, 1, 2, 3, 0, 1, 2, 3, -1);
        Scenes.states(desk, 3, 3, 3, 3, 2, 2, 2, 2, 0);
        LanternDesk later = new LanternDesk();
        later.ask(0, 4);
        later.ask(0, 4);
        later.ask(0, 4);
        later.pass(2);
        later.ask(4, 5);
        later.ask(1, 2);
        later.pass(1);
        Scenes.escorts(later, 0, 1, 2, 3, -1);
    }

    /** Escorts are given before anyone goes on, so one who becomes free in a minute is given in the next one. */
    private static void freedInTheMinuteBefore() {
        LanternDesk desk = new LanternDesk();
        for (int i = 0; i < 5; i++) {
            desk.ask(0, 1);
        }
        Due.is("pass(2)", desk.pass(2), 4);
        Scenes.states(desk, 3, 3, 3, 3, 0);
        Due.is("pass(1)", desk.pass(1), 0);
        Scenes.states(desk, 3, 3, 3, 3, 2);
        Scenes.escorts(desk, 0, 1, 2, 3, 0);
        Due.is("streetOf(0), back from 1", desk.streetOf(0), 0);
    }

    private static void atTheLowestAndTheHighestRank() {
        LanternDesk desk = new LanternDesk();
        for (int i = 0; i < 6; i++) {
            desk.complain(Scenes.walkWith(desk, 0), false);
            desk.complain(Scenes.walkWith(desk, 1), false);
        }
        Due.is("rank(0)", desk.rank(0), 0);
        desk.complain(Scenes.walkWith(desk, 1), true);
        Due.is("rank(1)", desk.rank(1), 5);
        desk.place(0, 2);
        desk.place(1, 2);
        int walk = desk.ask(2, 3);
        desk.pass(2);
        Due.is("rank 5 ahead of rank 0", desk.escortOf(walk), 1);
        desk.place(0, 2);
        desk.place(1, 6);
        walk = desk.ask(2, 3);
        desk.pass(2);
        Due.is("one of rank 0 who is near", desk.escortOf(walk), 0);
        LanternDesk high = new LanternDesk();
        for (int i = 0; i < 12; i++) {
            high.complain(Scenes.walkWith(high, 2), true);
            high.complain(Scenes.walkWith(high, 3), true);
        }
        Scenes.placeAll(high, 5);
        walk = high.ask(5, 6);
        high.pass(1);
        Due.is("the lower number of two with rank 100", high.escortOf(walk), 2);
    }

    private static void alikeBehindComplaintAndPraise() {
        LanternDesk desk = new LanternDesk();
        desk.complain(Scenes.walkWith(desk, 0), false);
        desk.complain(Scenes.walkWith(desk, 0), true);
        Scenes.placeAll(desk, 3);
        int second = desk.ask(3, 4);
        desk.pass(2);
        Due.is("45 is below 50", desk.escortOf(second), 1);
        desk.complain(Scenes.walkWith(desk, 0), true);
        Scenes.placeAll(desk, 3);
        int third = desk.ask(3, 4);
        desk.pass(2);
        Due.is("50 again, and the lowest number", desk.escortOf(third), 0);
    }

    private static void escortsStepOn() {
        Due.term("Then each walk with an escort, by rising numbers: if the escort is not yet with the walker,"
                + " and not at its street, it goes one street on");
        LanternDesk desk = new LanternDesk();
        desk.place(3, 4);
        desk.ask(7, 6);
        desk.ask(2, 3);
        desk.ask(1, 0);
        desk.ask(7, 0);
        desk.pass(1);
        Scenes.escorts(desk, 0, 1, 2, 3);
        int[] behindOne = {7, 1, 1, 5};
        for (int escort = 0; escort < 4; escort++) {
            Due.is("streetOf(" + escort + ")", desk.streetOf(escort), behindOne[escort]);
        }
        Scenes.states(desk, 2, 1, 2, 1);
        desk.pass(1);
        int[] behindTwo = {6, 2, 0, 6};
        for (int escort = 0; escort < 4; escort++) {
            Due.is("streetOf(" + escort + ")", desk.streetOf(escort), behindTwo[escort]);
        }
        Scenes.states(desk, 3, 2, 3, 1);
        desk.pass(1);
        Scenes.states(desk, 3, 3, 3, 2);
        Due.is("streetOf(0), free, stays", desk.streetOf(0), 6);
        lowestWalkIsLitFirst();
    }

    /** The order shows where a street can light only one of two walks that come there in the same minute. */
    private static void lowestWalkIsLitFirst() {
        LanternDesk both = new LanternDesk();
        both.place(0, 7);
        both.place(1, 1);
        both.ask(7, 1);
        both.ask(1, 7);
        both.pay(0, 1);
        both.pass(2);
        Scenes.escorts(both, 0, 1);
        Due.is("dark(0), dark at 7, lit at 0", both.dark(0), 1);
        Due.is("dark(1), dark at 1 and at 0", both.dark(1), 2);
        LanternDesk oneArrives = new LanternDesk();
        oneArrives.place(0, 1);
        oneArrives.place(1, 6);
        oneArrives.place(2, 4);
        oneArrives.place(3, 4);
        oneArrives.ask(1, 7);
        oneArrives.ask(0, 7);
        oneArrives.pay(0, 1);
        oneArrives.pass(2);
        Scenes.escorts(oneArrives, 0, 1);
        Scenes.states(oneArrives, 2, 2);
        Due.is("dark(0), dark at 1, lit at 0", oneArrives.dark(0), 1);
        Due.is("dark(1), dark at 0", oneArrives.dark(1), 1);
    }

    private static void escortsArrive() {
        Due.term("if it is there (perhaps since this minute), it is with the walker,"
                + " and they go no further in this minute");
        LanternDesk there = new LanternDesk();
        there.ask(0, 1);
        Due.is("pass(1), the escort was there", there.pass(1), 0);
        Scenes.states(there, 2);
        Due.is("streetOf(0)", there.streetOf(0), 0);
        LanternDesk near = new LanternDesk();
        near.ask(7, 6);
        Due.is("pass(1), the escort is there since then", near.pass(1), 0);
        Scenes.states(near, 2);
        Due.is("streetOf(0)", near.streetOf(0), 7);
        LanternDesk far = new LanternDesk();
        far.ask(4, 5);
        Due.is("pass(3), the escort is one street away", far.pass(3), 0);
        Scenes.states(far, 1);
        Due.is("streetOf(0)", far.streetOf(0), 3);
        Due.is("pass(1)", far.pass(1), 0);
        Scenes.states(far, 2);
        Due.is("streetOf(0)", far.streetOf(0), 4);
        LanternDesk past = new LanternDesk();
        past.ask(2, 0);
        Scenes.goesBy(past, 0, 1, 2, 1, 0);
        Scenes.states(past, 3);
    }

    private static void bothStepOn() {
        Due.term("if it was with the walker already, both go one street on");
        LanternDesk desk = new LanternDesk();
        desk.ask(7, 3);
        Scenes.goesBy(desk, 0, 7, 0, 1, 2, 3);
        Scenes.states(desk, 3);
        Due.is("dark(0), a minute in each of five streets", desk.dark(0), 5);
        for (int from = 0; from < 8; from++) {
            for (int steps = 1; steps <= 7; steps++) {
                LanternDesk fresh = new LanternDesk();
                int to = (from + steps) % 8;
                fresh.ask(from, to);
                int minutes = Math.max(1, fresh.way(0, from)) + fresh.way(from, to);
                Due.is("a minute too early", fresh.pass(minutes - 1), 0);
                Due.is("in time", fresh.pass(1), 1);
                Due.is("streetOf(0)", fresh.streetOf(0), to);
                Due.is("dark(0)", fresh.dark(0), fresh.way(from, to) + 1);
            }
        }
    }

    private static void lightOrDark() {
        Due.term("Whoever is with an escort behind that, is seen in the street where they are: that street lights them,"
                + " if its purse has its price, which it pays for each walk by itself, otherwise they are in the dark");
        for (int price = 0; price <= 50; price++) {
            purseHasThePrice(price);
        }
        eachWalkByItself();
        onlyWhoIsWithAnEscort();
        fromTheFirstStreetToTheEnd();
        pricesAndPursesOfNow();
    }

    private static void purseHasThePrice(int price) {
        LanternDesk just = new LanternDesk();
        just.setStreet(0, price, false);
        if (price > 0) {
            just.pay(0, price);
        }
        just.ask(0, 1);
        just.pass(1);
        Due.is("dark(0), the price is " + price + " and just there", just.dark(0), 0);
        Due.is("purse(0)", just.purse(0), 0);
        if (price > 0) {
            LanternDesk less = new LanternDesk();
            less.setStreet(0, price, false);
            if (price > 1) {
                less.pay(0, price - 1);
            }
            less.ask(0, 1);
            less.pass(1);
            Due.is("dark(0), one coin less than " + price, less.dark(0), 1);
            Due.is("purse(0) keeps what is not enough", less.purse(0), price - 1);
        }
        LanternDesk more = new LanternDesk();
        more.setStreet(0, price, false);
        more.pay(0, price + 1);
        more.ask(0, 1);
        more.pass(1);
        Due.is("dark(0), one coin more than " + price, more.dark(0), 0);
        Due.is("purse(0)", more.purse(0), 1);
    }

    private static void eachWalkByItself() {
        LanternDesk desk = new LanternDesk();
        desk.setStreet(0, 10, false);
        desk.pay(0, 29);
        for (int i = 0; i < 4; i++) {
            desk.ask(0, 1);
        }
        desk.pass(1);
        int[] darks = {0, 0, 1, 1};
        for (int walk = 0; walk < 4; walk++) {
            Due.is("dark(" + walk + ")", desk.dark(walk), darks[walk]);
        }
        Due.is("purse(0)", desk.purse(0), 9);
        Due.is("purse(1)", desk.purse(1), 0);
    }

    private static void onlyWhoIsWithAnEscort() {
        LanternDesk desk = new LanternDesk();
        for (int street = 0; street < 8; street++) {
            desk.pay(street, 5);
        }
        for (int i = 0; i < 5; i++) {
            desk.ask(2, 3);
        }
        desk.pass(1);
        Scenes.states(desk, 1, 1, 1, 1, 0);
        for (int street = 0; street < 8; street++) {
            Due.is("purse(" + street + "), none is with a walker", desk.purse(street), 5);
        }
        desk.pass(1);
        Due.is("purse(2), four are there, one waits", desk.purse(2), 1);
        Due.is("dark(4)", desk.dark(4), 0);
        desk.pass(1);
        Due.is("purse(2), they are gone", desk.purse(2), 1);
        Due.is("purse(3), they are there", desk.purse(3), 1);
        LanternDesk poor = new LanternDesk();
        poor.ask(3, 4);
        poor.pass(2);
        Due.is("dark(0), the escort comes", poor.dark(0), 0);
    }

    private static void fromTheFirstStreetToTheEnd() {
        LanternDesk desk = new LanternDesk();
        for (int street = 0; street < 8; street++) {
            desk.setStreet(street, 2, false);
            desk.pay(street, 10);
        }
        Scenes.placeAll(desk, 6);
        desk.ask(6, 1);
        Due.is("pass(60)", desk.pass(60), 1);
        int[] purses = {8, 8, 10, 10, 10, 10, 8, 8};
        for (int street = 0; street < 8; street++) {
            Due.is("purse(" + street + ")", desk.purse(street), purses[street]);
        }
        Due.is("dark(0)", desk.dark(0), 0);
    }

    private static void pricesAndPursesOfNow() {
        LanternDesk desk = new LanternDesk();
        desk.pay(1, 3);
        desk.setStreet(1, 3, false);
        desk.setStreet(2, 1, false);
        desk.ask(0, 3);
        desk.pass(1);
        Due.is("dark(0)", desk.dark(0), 1);
        desk.setStreet(1, 4, false);
        desk.pass(1);
        Due.is("dark(0), the price rose", desk.dark(0), 2);
        Due.is("purse(1)", desk.purse(1), 3);
        desk.pay(2, 1);
        desk.pass(1);
        Due.is("dark(0), it was paid in time", desk.dark(0), 2);
        desk.setStreet(3, 0, false);
        desk.pass(1);
        Due.is("dark(0), light for nothing", desk.dark(0), 2);
    }

    private static void pictures() {
        Due.term("and if it has a camera, it takes a picture of the walk");
        LanternDesk desk = Scenes.withCameras();
        desk.setStreet(0, 50, true);
        desk.setStreet(1, 0, false);
        desk.place(3, 6);
        desk.ask(0, 2);
        desk.ask(0, 2);
        desk.ask(4, 5);
        Scenes.counts(desk, 0, 0);
        desk.pass(1);
        Scenes.states(desk, 2, 2, 1);
        Scenes.counts(desk, 2, 2);
        Due.is("dark(0), taken in the dark", desk.dark(0), 1);
        Scenes.shows(desk, 0, 0, 0, true);
        Scenes.shows(desk, 0, 1, 0, true);
        Scenes.shows(desk, 5, 2, 0, false);
        desk.pass(1);
        Scenes.states(desk, 2, 2, 2);
        Scenes.shows(desk, 1, 0, 0, false);
        Scenes.shows(desk, 4, 2, 0, true);
        Scenes.counts(desk, 3, 3);
        desk.setStreet(2, 0, false);
        desk.setStreet(2, 0, true);
        desk.pass(1);
        Scenes.states(desk, 3, 3, 3);
        Scenes.counts(desk, 6, 6);
        Scenes.shows(desk, 2, 0, 0, true);
        Scenes.shows(desk, 2, 1, 0, true);
        Scenes.shows(desk, 5, 2, 0, true);
        desk.pass(60);
        Scenes.counts(desk, 6, 6);
    }

    private static void theEnd() {
        Due.term("If they are at the end of the walk, it is over");
        for (int from = 0; from < 8; from++) {
            LanternDesk desk = new LanternDesk();
            Scenes.placeAll(desk, from);
            desk.ask(from, (from + 1) % 8);
            desk.ask(from, (from + 7) % 8);
            desk.ask(from, (from + 4) % 8);
            Due.is("pass(1)", desk.pass(1), 0);
            Scenes.states(desk, 2, 2, 2);
            Due.is("pass(1)", desk.pass(1), 2);
            Scenes.states(desk, 3, 3, 2);
            Due.is("dark(0), seen at the end too", desk.dark(0), 2);
            Due.is("place(0, 0), free at once", desk.place(0, 0), (from + 1) % 8);
            Due.is("pass(2)", desk.pass(2), 0);
            Due.is("pass(1)", desk.pass(1), 1);
            Scenes.states(desk, 3, 3, 3);
            Due.is("dark(0) stays", desk.dark(0), 2);
            Due.is("dark(2)", desk.dark(2), 5);
        }
    }
}
