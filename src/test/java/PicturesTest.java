/** Promises 20 to 23, each sentence by itself: pictures that are kept, shown, told by papers and counted. */
public final class PicturesTest {
    private static final int[] NO_DAYS = {-1, 1, 7, 1000, 1001, 1 << 16, -(1 << 16), Integer.MIN_VALUE, Integer.MAX_VALUE};

    private interface Question {
        boolean shows(LanternDesk desk, int street, int walk, int day);
    }

    public static void main(String[] args) {
        pictures();
        Due.promise(21, "Tells by a paper whether there is a picture that is kept");
        keptOrNot(LanternDesk::shows);
        Due.promise(21, "day: the day on which it was taken");
        dayOfThePicture(LanternDesk::shows);
        Due.promise(21, "Returns whether there is");
        isThere(LanternDesk::shows);
        Due.promise(21, "Throws IndexOutOfBoundsException if there is no such street or walk");
        noStreetOrWalk(LanternDesk::shows);
        Due.promise(22, "Tells the same, from all papers of pictures that were ever taken,"
                + " whether they were erased or not, by their last days");
        keptOrNot(LanternDesk::showsByPapers);
        Due.promise(22, "day: the day on which it was taken");
        dayOfThePicture(LanternDesk::showsByPapers);
        Due.promise(22, "Returns whether there is");
        isThere(LanternDesk::showsByPapers);
        Due.promise(22, "Throws IndexOutOfBoundsException if there is no such street or walk");
        noStreetOrWalk(LanternDesk::showsByPapers);
        taken();
        Due.end();
    }

    private static void pictures() {
        Due.promise(20, "Returns how many pictures are kept");
        LanternDesk desk = Scenes.withCameras();
        Due.is("pictures(), none", desk.pictures(), 0);
        Scenes.voteAll(desk, 0, 1);
        desk.ask(0, 2);
        for (int taken = 1; taken <= 3; taken++) {
            desk.pass(1);
            Due.is("pictures()", desk.pictures(), taken);
        }
        desk.night();
        Due.is("pictures(), one is erased", desk.pictures(), 2);
        desk.ask(2, 1);
        desk.pass(10);
        Due.is("pictures() of two days", desk.pictures(), 4);
        Scenes.nights(desk, 5);
        Due.is("pictures() on day 6", desk.pictures(), 4);
        desk.night();
        Due.is("pictures() on day 7", desk.pictures(), 2);
        desk.night();
        Due.is("pictures() on day 8", desk.pictures(), 0);
        Due.is("taken()", desk.taken(), 5);
    }

    private static void keptOrNot(Question question) {
        for (int days : new int[] {1, 2, 7, 29, 30}) {
            LanternDesk desk = new LanternDesk();
            desk.setStreet(1, 1, true);
            Scenes.voteAll(desk, 1, days);
            desk.ask(0, 1);
            Due.is("(1, 0, 0) before it is taken", question.shows(desk, 1, 0, 0), false);
            desk.pass(1);
            Due.is("(1, 0, 0) a minute before", question.shows(desk, 1, 0, 0), false);
            desk.pass(1);
            for (int day = 0; day < days; day++) {
                Due.is("(1, 0, 0) on day " + day + " of " + days, question.shows(desk, 1, 0, 0), true);
                Due.is("(0, 0, 0), where no camera is", question.shows(desk, 0, 0, 0), false);
                desk.night();
            }
            for (int behind = 0; behind < 8; behind++) {
                Due.is("(1, 0, 0) behind " + days + " days", question.shows(desk, 1, 0, 0), false);
                desk.night();
            }
            Scenes.voteAll(desk, 1, 30);
            Due.is("(1, 0, 0) behind votes for 30", question.shows(desk, 1, 0, 0), false);
        }
        votesOfThatTime(question);
    }

    private static void votesOfThatTime(Question question) {
        LanternDesk desk = new LanternDesk();
        desk.setStreet(0, 1, true);
        Scenes.voteAll(desk, 0, 3);
        Scenes.walkWith(desk, 0);
        Scenes.voteAll(desk, 0, 1);
        Scenes.walkWith(desk, 0);
        Scenes.voteAll(desk, 0, 2);
        boolean[][] due = {{true, true}, {true, false}, {true, false}, {false, false}};
        for (int day = 0; day < due.length; day++) {
            for (int walk = 0; walk < 2; walk++) {
                Due.is("(0, " + walk + ", 0) on day " + day, question.shows(desk, 0, walk, 0), due[day][walk]);
            }
            desk.night();
        }
    }

    private static void dayOfThePicture(Question question) {
        LanternDesk desk = new LanternDesk();
        desk.setStreet(0, 1, true);
        Scenes.walkWith(desk, 0);
        for (int day : NO_DAYS) {
            Due.is("(0, 0, " + day + ") on day 0", question.shows(desk, 0, 0, day), false);
        }
        Due.is("(0, 0, 0) on day 0", question.shows(desk, 0, 0, 0), true);
        Scenes.nights(desk, 5);
        Scenes.walkWith(desk, 0);
        for (int day = -1; day <= 13; day++) {
            Due.is("(0, 0, " + day + ") on day 5", question.shows(desk, 0, 0, day), day == 0);
            Due.is("(0, 1, " + day + ") on day 5", question.shows(desk, 0, 1, day), day == 5);
        }
        Scenes.nights(desk, 2);
        Due.is("(0, 0, 0) on day 7", question.shows(desk, 0, 0, 0), false);
        Due.is("(0, 1, 5) on day 7", question.shows(desk, 0, 1, 5), true);
        Scenes.nights(desk, 4);
        Due.is("(0, 1, 5) on day 11", question.shows(desk, 0, 1, 5), true);
        desk.night();
        Due.is("(0, 1, 5) on day 12", question.shows(desk, 0, 1, 5), false);
    }

    private static void isThere(Question question) {
        LanternDesk desk = Scenes.withCameras();
        desk.setStreet(0, 0, false);
        desk.ask(6, 2);
        desk.ask(1, 0);
        for (int street = 0; street < 8; street++) {
            Due.is("(" + street + ", 0, 0), it waits", question.shows(desk, street, 0, 0), false);
        }
        desk.pass(60);
        boolean[][] due = {
            {false, true, true, false, false, false, true, true},
            {false, true, false, false, false, false, false, false}
        };
        for (int walk = 0; walk < 2; walk++) {
            for (int street = 0; street < 8; street++) {
                Due.is("(" + street + ", " + walk + ", 0)", question.shows(desk, street, walk, 0), due[walk][street]);
                Due.is("(" + street + ", " + walk + ", 1)", question.shows(desk, street, walk, 1), false);
            }
        }
    }

    private static void noStreetOrWalk(Question question) {
        LanternDesk desk = new LanternDesk();
        Due.isThrown("(0, 0, 0), no walks", Due.INDEX, () -> question.shows(desk, 0, 0, 0));
        desk.ask(0, 1);
        desk.ask(1, 0);
        for (int street : Outside.STREETS) {
            Due.isThrown("(" + street + ", 0, 0)", Due.INDEX, () -> question.shows(desk, street, 0, 0));
            Due.isThrown("(" + street + ", 2, -1)", Due.INDEX, () -> question.shows(desk, street, 2, -1));
        }
        for (int walk : Outside.of(0, 1)) {
            Due.isThrown("(0, " + walk + ", 0)", Due.INDEX, () -> question.shows(desk, 0, walk, 0));
            Due.isThrown("(7, " + walk + ", 1001)", Due.INDEX, () -> question.shows(desk, 7, walk, 1001));
        }
        for (int day : NO_DAYS) {
            Due.is("(7, 1, " + day + ") is no wrong call", question.shows(desk, 7, 1, day), false);
        }
    }

    private static void taken() {
        Due.promise(23, "Returns how many pictures were ever taken");
        LanternDesk desk = Scenes.withCameras();
        Due.is("taken(), none", desk.taken(), 0);
        Scenes.voteAll(desk, 0, 1);
        desk.ask(0, 4);
        for (int taken = 1; taken <= 5; taken++) {
            desk.pass(1);
            Due.is("taken()", desk.taken(), taken);
        }
        desk.pass(60);
        Due.is("taken(), the walk is over", desk.taken(), 5);
        desk.night();
        Due.is("taken(), one is erased", desk.taken(), 5);
        Scenes.nights(desk, 10);
        Due.is("taken(), all are erased", desk.taken(), 5);
        Due.is("pictures()", desk.pictures(), 0);
        desk.ask(4, 3);
        desk.pass(10);
        Due.is("taken(), two more", desk.taken(), 7);
    }
}
