/** Promises 5 to 9, each sentence by itself: escorts are placed, walks asked for, minutes and nights go by, complaints. */
public final class WalksTest {
    public static void main(String[] args) {
        place();
        placeReturns();
        placeNoEscortOrStreet();
        placeNotFree();
        ask();
        askFrom();
        askTo();
        askReturns();
        askNoStreet();
        askTheSame();
        askTooOften();
        pass();
        passMinutes();
        passReturns();
        passOutOfRange();
        passTooLong();
        night();
        nightReturns();
        nightRefused();
        lastDay();
        complain();
        complainIsPraise();
        complainReturns();
        complainNoWalk();
        complainNotOverOrTold();
        Due.end();
    }

    private static void place() {
        Due.promise(5, "Places a free escort at a street");
        LanternDesk desk = new LanternDesk();
        for (int escort = 0; escort < 4; escort++) {
            for (int street = 7; street >= 0; street--) {
                desk.place(escort, street);
                Due.is("streetOf(" + escort + ")", desk.streetOf(escort), street);
            }
            desk.place(escort, 7 - escort);
        }
        for (int escort = 0; escort < 4; escort++) {
            Due.is("streetOf(" + escort + ")", desk.streetOf(escort), 7 - escort);
            Due.is("rank(" + escort + ")", desk.rank(escort), 50);
        }
        desk.ask(5, 6);
        desk.pass(1);
        Scenes.escorts(desk, 2);
        Scenes.states(desk, 2);
    }

    private static void placeReturns() {
        Due.promise(5, "Returns the street where it was");
        LanternDesk desk = new LanternDesk();
        Due.is("place(3, 7)", desk.place(3, 7), 0);
        Due.is("place(3, 7), the same", desk.place(3, 7), 7);
        Due.is("place(3, 0)", desk.place(3, 0), 7);
        Due.is("place(3, 1)", desk.place(3, 1), 0);
        Due.is("place(0, 1), another one", desk.place(0, 1), 0);
        desk.ask(1, 7);
        desk.pass(3);
        Due.is("place(0, 1) behind a walk to 7", desk.place(0, 1), 7);
    }

    private static void placeNoEscortOrStreet() {
        Due.promise(5, "Throws IndexOutOfBoundsException if there is no such escort or street");
        LanternDesk desk = new LanternDesk();
        for (int escort : Outside.ESCORTS) {
            Due.isThrown("place(" + escort + ", 0)", Due.INDEX, () -> desk.place(escort, 0));
            Due.isThrown("place(" + escort + ", 7)", Due.INDEX, () -> desk.place(escort, 7));
            Due.isThrown("place(" + escort + ", 8)", Due.INDEX, () -> desk.place(escort, 8));
        }
        for (int street : Outside.STREETS) {
            Due.isThrown("place(0, " + street + ")", Due.INDEX, () -> desk.place(0, street));
            Due.isThrown("place(3, " + street + ")", Due.INDEX, () -> desk.place(3, street));
        }
        for (int escort = 0; escort < 4; escort++) {
            Due.is("streetOf(" + escort + ")", desk.streetOf(escort), 0);
        }
    }

    private static void placeNotFree() {
        Due.promise(5, "Throws IllegalStateException if it is not free");
        LanternDesk desk = new LanternDesk();
        desk.ask(2, 3);
        Due.is("place(0, 0), the walk waits", desk.place(0, 0), 0);
        desk.pass(1);
        Due.isThrown("place(0, 5), it is coming", Due.STATE, () -> desk.place(0, 5));
        Due.isThrown("place(0, 1), where it is", Due.STATE, () -> desk.place(0, 1));
        Due.is("streetOf(0)", desk.streetOf(0), 1);
        desk.pass(1);
        Due.isThrown("place(0, 5), it is with the walker", Due.STATE, () -> desk.place(0, 5));
        Due.is("streetOf(0)", desk.streetOf(0), 2);
        Due.is("place(1, 5), who is free", desk.place(1, 5), 0);
        desk.pass(1);
        Due.is("place(0, 5), the walk is over", desk.place(0, 5), 3);
        for (int i = 0; i < 4; i++) {
            desk.ask(0, 1);
        }
        desk.pass(1);
        for (int escort = 0; escort < 4; escort++) {
            int busy = escort;
            Due.isThrown("place(" + busy + ", 0), all have walks", Due.STATE, () -> desk.place(busy, 0));
        }
    }

    private static void ask() {
        Due.promise(6, "Asks for a walk");
        LanternDesk desk = new LanternDesk();
        desk.ask(3, 4);
        Due.is("walks()", desk.walks(), 1);
        Scenes.states(desk, 0);
        Scenes.escorts(desk, -1);
        Due.is("dark(0)", desk.dark(0), 0);
        desk.ask(3, 4);
        Due.is("walks(), the same streets", desk.walks(), 2);
        desk.pass(2);
        desk.ask(4, 3);
        Scenes.states(desk, 1, 1, 0);
    }

    private static void askFrom() {
        Due.promise(6, "from: the street from which it goes");
        for (int from = 0; from < 8; from++) {
            LanternDesk desk = Scenes.withCameras();
            Scenes.placeAll(desk, from);
            Due.is("ask(" + from + ", the next one)", desk.ask(from, (from + 1) % 8), 0);
            desk.pass(1);
            Scenes.states(desk, 2);
            Scenes.shows(desk, from, 0, 0, true);
            Scenes.counts(desk, 1, 1);
        }
    }

    private static void askTo() {
        Due.promise(6, "to: the street to which it goes");
        for (int to = 0; to < 8; to++) {
            LanternDesk desk = Scenes.withCameras();
            Due.is("ask(the one before, " + to + ")", desk.ask((to + 7) % 8, to), 0);
            desk.pass(30);
            Scenes.states(desk, 3);
            Due.is("streetOf(0)", desk.streetOf(0), to);
            Scenes.shows(desk, to, 0, 0, true);
            Scenes.counts(desk, 2, 2);
        }
    }

    private static void askReturns() {
        Due.promise(6, "Returns its number");
        LanternDesk desk = new LanternDesk();
        for (int number = 0; number < 60; number++) {
            int from = number % 8;
            Due.is("ask", desk.ask(from, (from + 1 + number % 7) % 8), number);
        }
        LanternDesk refused = new LanternDesk();
        refused.ask(0, 1);
        Due.isThrown("ask(1, 1)", Due.ARGUMENT, () -> refused.ask(1, 1));
        Due.isThrown("ask(1, 8)", Due.INDEX, () -> refused.ask(1, 8));
        Due.is("ask(1, 2), no number is lost", refused.ask(1, 2), 1);
    }

    private static void askNoStreet() {
        Due.promise(6, "Throws IndexOutOfBoundsException if there is no such street");
        LanternDesk desk = new LanternDesk();
        for (int street : Outside.STREETS) {
            Due.isThrown("ask(" + street + ", 0)", Due.INDEX, () -> desk.ask(street, 0));
            Due.isThrown("ask(0, " + street + ")", Due.INDEX, () -> desk.ask(0, street));
            Due.isThrown("ask(" + street + ", 7)", Due.INDEX, () -> desk.ask(street, 7));
            Due.isThrown("ask(7, " + street + ")", Due.INDEX, () -> desk.ask(7, street));
        }
        Due.is("walks()", desk.walks(), 0);
        Due.is("ask(0, 7)", desk.ask(0, 7), 0);
        Due.is("ask(7, 0)", desk.ask(7, 0), 1);
    }

    private static void askTheSame() {
        Due.promise(6, "Throws IllegalArgumentException if both are the same");
        LanternDesk desk = new LanternDesk();
        for (int street = 0; street < 8; street++) {
            int same = street;
            Due.isThrown("ask(" + same + ", " + same + ")", Due.ARGUMENT, () -> desk.ask(same, same));
        }
        Due.is("walks()", desk.walks(), 0);
        Due.is("pass(60)", desk.pass(60), 0);
    }

    private static void askTooOften() {
        Due.promise(6, "Throws IllegalStateException if 60 were asked for");
        LanternDesk desk = new LanternDesk();
        for (int number = 0; number < 59; number++) {
            desk.ask(0, 1);
        }
        Due.is("ask(0, 1) the 60th time", desk.ask(0, 1), 59);
        Due.isThrown("ask(0, 1) the 61st time", Due.STATE, () -> desk.ask(0, 1));
        Due.isThrown("ask(7, 3) the 61st time", Due.STATE, () -> desk.ask(7, 3));
        Due.is("walks()", desk.walks(), 60);
        Due.is("pass(60)", desk.pass(60), 60);
        Due.is("state(59)", desk.state(59), 3);
        Due.isThrown("ask(0, 1), all are over", Due.STATE, () -> desk.ask(0, 1));
        desk.night();
        Due.isThrown("ask(0, 1), on the next day", Due.STATE, () -> desk.ask(0, 1));
        Due.is("walks()", desk.walks(), 60);
    }

    private static void pass() {
        Due.promise(7, "Lets minutes go by");
        LanternDesk desk = new LanternDesk();
        desk.pass(7);
        Due.is("minute()", desk.minute(), 7);
        desk.pass(60);
        Due.is("minute()", desk.minute(), 67);
        Due.is("day()", desk.day(), 0);
        LanternDesk atOnce = rows();
        LanternDesk oneByOne = rows();
        atOnce.pass(14);
        for (int i = 0; i < 14; i++) {
            oneByOne.pass(1);
        }
        Due.is("14 minutes at once", Snapshot.of(atOnce), Snapshot.of(oneByOne));
    }

    private static LanternDesk rows() {
        LanternDesk desk = Scenes.withCameras();
        for (int street = 0; street < 8; street++) {
            desk.setStreet(street, 3, street != 4);
            desk.pay(street, 20);
        }
        for (int i = 0; i < 9; i++) {
            desk.ask(i % 8, (3 * i + 1) % 8);
        }
        return desk;
    }

    private static void passMinutes() {
        Due.promise(7, "minutes: 1 to 60");
        LanternDesk desk = new LanternDesk();
        Due.is("pass(1)", desk.pass(1), 0);
        Due.is("minute()", desk.minute(), 1);
        Due.is("pass(60)", desk.pass(60), 0);
        Due.is("minute()", desk.minute(), 61);
        Due.is("pass(59)", desk.pass(59), 0);
        Due.is("minute()", desk.minute(), 120);
        Due.isThrown("pass(0)", Due.ARGUMENT, () -> desk.pass(0));
        Due.isThrown("pass(61)", Due.ARGUMENT, () -> desk.pass(61));
        Due.is("minute()", desk.minute(), 120);
    }

    private static void passReturns() {
        Due.promise(7, "Returns how many walks are over in them");
        LanternDesk desk = new LanternDesk();
        Due.is("pass(60), no walks", desk.pass(60), 0);
        desk.ask(0, 1);
        desk.ask(0, 2);
        desk.ask(0, 7);
        desk.ask(0, 3);
        Due.is("pass(1), none", desk.pass(1), 0);
        Due.is("pass(1), two of them", desk.pass(1), 2);
        Due.is("pass(1), one in its last minute", desk.pass(1), 1);
        desk.ask(0, 1);
        Due.is("pass(60), an old one and a new one", desk.pass(60), 2);
        Due.is("pass(60), each is counted once", desk.pass(60), 0);
        LanternDesk many = new LanternDesk();
        for (int i = 0; i < 60; i++) {
            many.ask(i % 2, 1 - i % 2);
        }
        Due.is("pass(29), with four of them under way", many.pass(29), 56);
        Due.is("pass(60)", many.pass(60), 4);
    }

    private static void passOutOfRange() {
        Due.promise(7, "Throws IllegalArgumentException if minutes is out of range");
        LanternDesk desk = new LanternDesk();
        desk.ask(0, 1);
        for (int minutes : Outside.of(1, 60)) {
            Due.isThrown("pass(" + minutes + ")", Due.ARGUMENT, () -> desk.pass(minutes));
        }
        Due.is("minute()", desk.minute(), 0);
        Scenes.states(desk, 0);
    }

    private static void passTooLong() {
        Due.promise(7, "Throws IllegalStateException if the minute would be above 1000");
        LanternDesk late = Scenes.atMinute(941);
        late.ask(0, 1);
        Due.isThrown("pass(60) at 941", Due.STATE, () -> late.pass(60));
        Due.is("minute()", late.minute(), 941);
        Scenes.states(late, 0);
        Due.is("pass(59) at 941, 1000 is not above", late.pass(59), 1);
        Due.is("minute()", late.minute(), 1000);
        for (int minutes : new int[] {1, 2, 59, 60}) {
            Due.isThrown("pass(" + minutes + ") at 1000", Due.STATE, () -> late.pass(minutes));
        }
        LanternDesk justInTime = Scenes.atMinute(940);
        Due.is("pass(60) at 940", justInTime.pass(60), 0);
        Due.is("minute()", justInTime.minute(), 1000);
        LanternDesk last = Scenes.atMinute(999);
        Due.isThrown("pass(2) at 999", Due.STATE, () -> last.pass(2));
        Due.is("pass(1) at 999", last.pass(1), 0);
        Due.isThrown("pass(1) at 1000", Due.STATE, () -> last.pass(1));
        last.ask(0, 1);
        Due.isThrown("night() with a walk that can't end", Due.STATE, last::night);
        late.night();
        Due.is("pass(60) on the next day", late.pass(60), 0);
        Due.is("minute()", late.minute(), 60);
    }

    private static void night() {
        Due.promise(8, "Ends the night");
        LanternDesk desk = new LanternDesk();
        desk.pass(3);
        desk.night();
        Due.is("day()", desk.day(), 1);
        Due.is("minute()", desk.minute(), 0);
        desk.night();
        Due.is("day(), no minute went by", desk.day(), 2);
        LanternDesk late = Scenes.atMinute(1000);
        late.night();
        Due.is("minute() behind minute 1000", late.minute(), 0);
        late.pass(1);
        Due.is("minute()", late.minute(), 1);
        Due.is("day()", late.day(), 1);
    }

    private static void nightReturns() {
        Due.promise(8, "Returns how many pictures are erased");
        LanternDesk desk = Scenes.withCameras();
        Scenes.voteAll(desk, 0, 1);
        Scenes.voteAll(desk, 1, 1);
        Scenes.voteAll(desk, 2, 2);
        Due.is("night(), no pictures", desk.night(), 0);
        desk.ask(0, 3);
        desk.ask(0, 3);
        desk.pass(10);
        Scenes.counts(desk, 8, 8);
        Due.is("night(), two streets, two walks", desk.night(), 4);
        desk.ask(0, 1);
        desk.pass(10);
        Due.is("night(), pictures of two days", desk.night(), 4);
        Scenes.counts(desk, 2, 10);
        for (int day = 4; day <= 7; day++) {
            Due.is("night() to day " + day, desk.night(), 0);
        }
        Due.is("night(), seven days behind day 1", desk.night(), 2);
        Due.is("night(), each is erased once", desk.night(), 0);
        Scenes.counts(desk, 0, 10);
    }

    private static void nightRefused() {
        Due.promise(8, "Throws IllegalStateException if some walk is not over, or it is the day 1000");
        LanternDesk desk = new LanternDesk();
        desk.pass(5);
        desk.ask(6, 5);
        for (int state = 0; state < 3; state++) {
            Scenes.states(desk, state);
            Due.isThrown("night() at state " + state, Due.STATE, desk::night);
            Due.is("day()", desk.day(), 0);
            Due.is("minute()", desk.minute(), 5 + state);
            desk.pass(1);
        }
        Scenes.states(desk, 3);
        Due.is("night() at state 3", desk.night(), 0);
        LanternDesk many = new LanternDesk();
        for (int i = 0; i < 60; i++) {
            many.ask(0, 1);
        }
        many.pass(59);
        Due.is("state(59)", many.state(59), 3);
        Due.is("night(), sixty are over", many.night(), 0);
    }

    /** The day 1000 lies behind 512 calls, where the document leaves the answers free; the bound is kept there too. */
    private static void lastDay() {
        Due.promise(8, "Throws IllegalStateException if some walk is not over, or it is the day 1000");
        LanternDesk desk = new LanternDesk();
        for (int day = 1; day <= 1000; day++) {
            Due.is("night() to day " + day, desk.night(), 0);
        }
        Due.is("day()", desk.day(), 1000);
        desk.pass(3);
        Due.isThrown("night() at day 1000", Due.STATE, desk::night);
        Due.is("day()", desk.day(), 1000);
        Due.is("minute()", desk.minute(), 3);
    }

    private static void complain() {
        Due.promise(9, "Tells a complaint, or a praise");
        LanternDesk desk = new LanternDesk();
        int first = Scenes.walkWith(desk, 2);
        int second = Scenes.walkWith(desk, 1);
        desk.complain(second, false);
        desk.complain(first, true);
        int[] ranks = {50, 40, 55, 50};
        for (int escort = 0; escort < 4; escort++) {
            Due.is("rank(" + escort + ")", desk.rank(escort), ranks[escort]);
        }
        int third = Scenes.walkWith(desk, 2);
        desk.night();
        desk.complain(third, true);
        Due.is("rank(2), told on the next day", desk.rank(2), 60);
        Due.is("walks()", desk.walks(), 3);
    }

    private static void complainIsPraise() {
        Due.promise(9, "isPraise: whether it is a praise");
        LanternDesk desk = new LanternDesk();
        Due.is("a praise", desk.complain(Scenes.walkWith(desk, 0), true), 55);
        Due.is("a complaint", desk.complain(Scenes.walkWith(desk, 3), false), 40);
        Due.is("a complaint behind a praise", desk.complain(Scenes.walkWith(desk, 0), false), 45);
        Due.is("a praise behind a complaint", desk.complain(Scenes.walkWith(desk, 3), true), 45);
    }

    private static void complainReturns() {
        Due.promise(9, "Returns the rank of its escort then");
        LanternDesk desk = new LanternDesk();
        int[] falling = {40, 30, 20, 10, 0, 0};
        for (int rank : falling) {
            int walk = Scenes.walkWith(desk, 3);
            Due.is("complain(" + walk + ", false)", desk.complain(walk, false), rank);
            Due.is("rank(3)", desk.rank(3), rank);
        }
        for (int rank = 5; rank <= 105; rank += 5) {
            int walk = Scenes.walkWith(desk, 3);
            Due.is("complain(" + walk + ", true)", desk.complain(walk, true), Math.min(rank, 100));
        }
        Due.is("rank(3)", desk.rank(3), 100);
    }

    private static void complainNoWalk() {
        Due.promise(9, "Throws IndexOutOfBoundsException if there is no such walk");
        LanternDesk desk = new LanternDesk();
        Due.isThrown("complain(0, true), no walks", Due.INDEX, () -> desk.complain(0, true));
        int walk = Scenes.walkWith(desk, 0);
        for (int none : Outside.of(walk, walk)) {
            Due.isThrown("complain(" + none + ", true)", Due.INDEX, () -> desk.complain(none, true));
            Due.isThrown("complain(" + none + ", false)", Due.INDEX, () -> desk.complain(none, false));
        }
        Due.isThrown("complain(60, true)", Due.INDEX, () -> desk.complain(60, true));
        Due.is("complain(0, true)", desk.complain(0, true), 55);
    }

    private static void complainNotOverOrTold() {
        Due.promise(9, "Throws IllegalStateException if it is not over, or one was told of it");
        LanternDesk desk = new LanternDesk();
        desk.ask(2, 3);
        for (int state = 0; state < 3; state++) {
            Scenes.states(desk, state);
            Due.isThrown("complain(0, true) at state " + state, Due.STATE, () -> desk.complain(0, true));
            Due.isThrown("complain(0, false) at state " + state, Due.STATE, () -> desk.complain(0, false));
            desk.pass(1);
        }
        Due.is("rank(0)", desk.rank(0), 50);
        Due.is("complain(0, true) at state 3", desk.complain(0, true), 55);
        Due.isThrown("complain(0, true) again", Due.STATE, () -> desk.complain(0, true));
        Due.isThrown("complain(0, false) again", Due.STATE, () -> desk.complain(0, false));
        desk.night();
        Due.isThrown("complain(0, true) on the next day", Due.STATE, () -> desk.complain(0, true));
        Due.is("rank(0)", desk.rank(0), 55);
        Due.is("another walk of the same escort", desk.complain(Scenes.walkWith(desk, 0), false), 45);
        Due.isThrown("complain(1, true)", Due.STATE, () -> desk.complain(1, true));
    }
}
