/** What "Terms" says of pictures, nights and complaints, each sentence by itself. */
public final class KeepingTest {
    public static void main(String[] args) {
        shownAndToldByPapers();
        streetWalkAndDay();
        keptUntilThatDay();
        goneOnThatDay();
        onePictureOfStreetAndDay();
        noOtherOne();
        threeHundred();
        nightsEndWhenAllIsOver();
        behindTheNight();
        complaints();
        Due.end();
    }

    private static void shownAndToldByPapers() {
        Due.term("What may still be seen is kept as pictures are taken and erased,"
                + " and told once more from all papers of pictures that were ever taken");
        LanternDesk desk = Scenes.withCameras();
        for (int street = 0; street < 8; street++) {
            Scenes.voteAll(desk, street, street + 1);
        }
        desk.ask(7, 3);
        desk.pass(5);
        for (int day = 0; day <= 9; day++) {
            for (int street = 0; street < 8; street++) {
                boolean isSeen = street < 4 || street == 7;
                Scenes.shows(desk, street, 0, 0, isSeen && day < street + 1);
            }
            desk.night();
        }
        Scenes.counts(desk, 0, 5);
    }

    private static void streetWalkAndDay() {
        Due.term("A picture has a street, a walk, and the day on which it was taken");
        LanternDesk desk = Scenes.withCameras();
        desk.night();
        desk.ask(0, 1);
        desk.ask(7, 6);
        desk.pass(2);
        desk.night();
        desk.ask(1, 2);
        desk.pass(2);
        boolean[][][] seen = new boolean[8][3][4];
        seen[0][0][1] = true;
        seen[1][0][1] = true;
        seen[7][1][1] = true;
        seen[6][1][1] = true;
        seen[1][2][2] = true;
        seen[2][2][2] = true;
        for (int street = 0; street < 8; street++) {
            for (int walk = 0; walk < 3; walk++) {
                for (int day = 0; day < 4; day++) {
                    Scenes.shows(desk, street, walk, day, seen[street][walk][day]);
                }
            }
        }
        Scenes.counts(desk, 6, 6);
    }

    private static LanternDesk withPictureFor(int days) {
        LanternDesk desk = new LanternDesk();
        desk.setStreet(0, 0, true);
        Scenes.voteAll(desk, 0, days);
        desk.night();
        desk.ask(0, 1);
        desk.pass(2);
        Scenes.counts(desk, 1, 1);
        return desk;
    }

    private static void keptUntilThatDay() {
        Due.term("It is kept until the day that is behind that by as many days as the street kept pictures then");
        for (int days = 1; days <= 30; days++) {
            LanternDesk desk = withPictureFor(days);
            for (int night = 1; night < days; night++) {
                Due.is("night() " + night + " of " + days, desk.night(), 0);
            }
            Scenes.shows(desk, 0, 0, 1, true);
            Scenes.counts(desk, 1, 1);
        }
        votesOfThatTime();
    }

    /** What counts is what the votes were when a picture was taken, even within one walk. */
    private static void votesOfThatTime() {
        LanternDesk shorter = withPictureFor(3);
        Scenes.voteAll(shorter, 0, 1);
        Due.is("night() behind votes for 1", shorter.night(), 0);
        Scenes.shows(shorter, 0, 0, 1, true);
        LanternDesk longer = withPictureFor(1);
        Scenes.voteAll(longer, 0, 30);
        Due.is("night() behind votes for 30", longer.night(), 1);
        Scenes.shows(longer, 0, 0, 1, false);
        LanternDesk within = Scenes.withCameras();
        within.ask(0, 2);
        within.pass(1);
        for (int street = 0; street < 3; street++) {
            Scenes.voteAll(within, street, 2 + street);
        }
        within.pass(2);
        int[] erased = {0, 0, 1, 1, 0, 0, 1, 0};
        for (int day = 1; day <= erased.length; day++) {
            Due.is("night() to day " + day, within.night(), erased[day - 1]);
        }
    }

    private static void goneOnThatDay() {
        Due.term("it is not kept on that day any more, and erased for good");
        for (int days = 1; days <= 30; days++) {
            LanternDesk desk = withPictureFor(days);
            Scenes.nights(desk, days - 1);
            Due.is("night() to the day on which it is due", desk.night(), 1);
            Scenes.shows(desk, 0, 0, 1, false);
            Scenes.counts(desk, 0, 1);
            Scenes.voteAll(desk, 0, 30);
            Due.is("night() behind that", desk.night(), 0);
            Scenes.shows(desk, 0, 0, 1, false);
            Scenes.counts(desk, 0, 1);
        }
    }

    private static void onePictureOfStreetAndDay() {
        Due.term("A walk has at most one picture that is kept of each street and day");
        LanternDesk desk = Scenes.withCameras();
        int walks = 0;
        for (int day = 0; day < 3; day++) {
            desk.ask(6, 2);
            desk.ask(0, 5);
            desk.ask(5, 6);
            walks += 3;
            desk.pass(30);
            desk.night();
        }
        int shown = 0;
        for (int walk = 0; walk < walks; walk++) {
            for (int street = 0; street < 8; street++) {
                shown += desk.shows(street, walk, walk / 3) ? 1 : 0;
                shown += desk.shows(street, walk, (walk / 3 + 1) % 3) ? 1 : 0;
            }
        }
        Due.is("pictures of different streets, walks and days", shown, 3 * (5 + 4 + 2));
        Scenes.counts(desk, shown, shown);
    }

    private static void noOtherOne() {
        Due.term("another one in the same street and day is not taken");
        LanternDesk desk = Scenes.withCameras();
        desk.ask(0, 1);
        desk.pass(1);
        Scenes.counts(desk, 1, 1);
        desk.setStreet(0, 0, true);
        desk.pass(1);
        Scenes.counts(desk, 2, 2);
        desk.setStreet(1, 0, true);
        desk.pass(60);
        Scenes.counts(desk, 2, 2);
        desk.ask(1, 0);
        desk.pass(2);
        Due.is("escortOf(1), the same one", desk.escortOf(1), 0);
        Scenes.counts(desk, 4, 4);
        desk.ask(0, 1);
        desk.pass(2);
        Scenes.counts(desk, 6, 6);
    }

    /** Sixty walks of five streets each: as many pictures as there can ever be. */
    private static void threeHundred() {
        Due.term("At most 300 pictures are taken in all");
        LanternDesk desk = Scenes.withCameras();
        for (int walk = 0; walk < 60; walk++) {
            desk.ask(walk % 8, (walk + 4) % 8);
        }
        int minutes = 0;
        while (desk.taken() < 295) {
            desk.pass(1);
            minutes++;
        }
        desk.pass(60);
        Due.is("it takes some hours", minutes > 60, true);
        Due.is("state(59)", desk.state(59), 3);
        Scenes.counts(desk, 300, 300);
        for (int step = 0; step <= 4; step++) {
            Scenes.shows(desk, (59 + step) % 8, 59, 0, true);
        }
        Scenes.nights(desk, 6);
        Scenes.counts(desk, 300, 300);
        Due.is("night() to day 7", desk.night(), 300);
        Scenes.counts(desk, 0, 300);
    }

    private static void nightsEndWhenAllIsOver() {
        Due.term("The night ends if no walk waits or has an escort");
        LanternDesk desk = new LanternDesk();
        Due.is("night(), no walks at all", desk.night(), 0);
        desk.ask(2, 1);
        Due.isThrown("night(), one waits", Due.STATE, desk::night);
        desk.pass(1);
        Scenes.states(desk, 1);
        Due.isThrown("night(), an escort is coming", Due.STATE, desk::night);
        desk.pass(1);
        Scenes.states(desk, 2);
        Due.isThrown("night(), an escort is with the walker", Due.STATE, desk::night);
        desk.pass(1);
        Scenes.states(desk, 3);
        Due.is("night(), it is over", desk.night(), 0);
        for (int i = 0; i < 5; i++) {
            desk.ask(1, 2);
        }
        desk.pass(2);
        Scenes.states(desk, 3, 3, 3, 3, 3, 0);
        Due.isThrown("night(), the last one waits", Due.STATE, desk::night);
        desk.pass(2);
        Due.is("night(), all are over", desk.night(), 0);
        desk.ask(0, 4);
        desk.ask(2, 3);
        desk.pass(3);
        Due.is("state(6), the first one of two", desk.state(6), 2);
        Due.is("state(7)", desk.state(7), 3);
        Due.isThrown("night(), the first one is under way", Due.STATE, desk::night);
    }

    private static void behindTheNight() {
        Due.term("then the day is 1 more, the minute 0, and pictures that are due are erased");
        LanternDesk desk = Scenes.withCameras();
        Scenes.voteAll(desk, 0, 1);
        Scenes.voteAll(desk, 1, 2);
        desk.ask(0, 2);
        desk.pass(7);
        Due.is("minute()", desk.minute(), 7);
        Due.is("night()", desk.night(), 1);
        Due.is("day()", desk.day(), 1);
        Due.is("minute()", desk.minute(), 0);
        Scenes.counts(desk, 2, 3);
        Due.is("night() at minute 0", desk.night(), 1);
        Due.is("day()", desk.day(), 2);
        Due.is("minute()", desk.minute(), 0);
        Scenes.counts(desk, 1, 3);
        Due.is("walks()", desk.walks(), 1);
        Scenes.states(desk, 3);
        Due.is("streetOf(0) stays", desk.streetOf(0), 2);
        Due.is("setStreet(0, 0, true), the price stays", desk.setStreet(0, 0, true), 0);
        Due.is("vote(0, 0, 1), the votes stay", desk.vote(0, 0, 1), 1);
        Due.is("complain(0, true), still to be told", desk.complain(0, true), 55);
        desk.night();
        Due.is("rank(0) stays", desk.rank(0), 55);
        desk.pay(5, 12);
        desk.night();
        Due.is("purse(5) stays", desk.purse(5), 12);
        desk.ask(2, 3);
        desk.pass(2);
        Due.is("dark(0) stays", desk.dark(0), 0);
        Scenes.shows(desk, 3, 1, 4, true);
        Scenes.shows(desk, 3, 1, 0, false);
    }

    private static void complaints() {
        Due.term("When a walk is over, there can be one complaint or one praise of it: the rank of its escort becomes"
                + " 10 less, or 5 more, but 0 at least and 100 at most");
        LanternDesk desk = new LanternDesk();
        int[] falling = {40, 30, 20, 10, 0, 0, 0};
        for (int rank : falling) {
            oneOfIt(desk, 2, false, rank);
        }
        int[] rising = {5, 10, 15, 20, 25, 30, 35, 40, 45, 50, 55, 60, 65, 70, 75, 80, 85, 90, 95, 100, 100, 100};
        for (int rank : rising) {
            oneOfIt(desk, 2, true, rank);
        }
        oneOfIt(desk, 2, false, 90);
        for (int escort : new int[] {0, 1, 3}) {
            Due.is("rank(" + escort + ")", desk.rank(escort), 50);
        }
        LanternDesk odd = new LanternDesk();
        oneOfIt(odd, 1, true, 55);
        for (int rank : new int[] {45, 35, 25, 15, 5, 0}) {
            oneOfIt(odd, 1, false, rank);
        }
    }

    /** The second one of a walk is refused, even if the first one moved nothing. */
    private static void oneOfIt(LanternDesk desk, int escort, boolean isPraise, int rank) {
        int walk = Scenes.walkWith(desk, escort);
        Due.is("complain(" + walk + ", " + isPraise + ")", desk.complain(walk, isPraise), rank);
        Due.isThrown("a complaint behind it", Due.STATE, () -> desk.complain(walk, false));
        Due.isThrown("a praise behind it", Due.STATE, () -> desk.complain(walk, true));
        Due.is("rank(" + escort + ")", desk.rank(escort), rank);
    }
}
