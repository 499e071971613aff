/** Promises 8 and 20 to 23: pictures that are taken, kept, shown and erased. */
public final class PicturesTest {
    private static final Class<IndexOutOfBoundsException> INDEX = IndexOutOfBoundsException.class;

    public static void main(String[] args) {
        takenWhereCamerasAre();
        notTakenOfEscortsWhoCome();
        onePictureOfEachStreetAndDay();
        cameraSwitchedDuringAWalk();
        keptForTheDaysVoted();
        laterVotesLeavePicturesAlone();
        longestAndShortest();
        threeHundred();
        showsRefuses();
        Due.end();
    }

    private static void showsBoth(LanternDesk desk, int street, int walk, int day, boolean want) {
        String arguments = "(" + street + ", " + walk + ", " + day + ")";
        Due.is("shows" + arguments, desk.shows(street, walk, day), want);
        Due.is("showsByPapers" + arguments, desk.showsByPapers(street, walk, day), want);
    }

    private static void counts(LanternDesk desk, int pictures, int taken) {
        Due.is("pictures()", desk.pictures(), pictures);
        Due.is("taken()", desk.taken(), taken);
    }

    private static void takenWhereCamerasAre() {
        LanternDesk desk = new LanternDesk();
        desk.setStreet(0, 1, true);
        desk.setStreet(2, 50, true);
        desk.ask(0, 2);
        counts(desk, 0, 0);
        desk.pass(1);
        counts(desk, 1, 1);
        desk.pass(1);
        counts(desk, 1, 1);
        desk.pass(1);
        counts(desk, 2, 2);
        Due.is("dark(0), pictures are taken in the dark too", desk.dark(0), 3);
        showsBoth(desk, 0, 0, 0, true);
        showsBoth(desk, 1, 0, 0, false);
        showsBoth(desk, 2, 0, 0, true);
        showsBoth(desk, 3, 0, 0, false);
        showsBoth(desk, 0, 0, 1, false);
        showsBoth(desk, 0, 0, -1, false);
        showsBoth(desk, 0, 0, Integer.MAX_VALUE, false);
        showsBoth(desk, 0, 0, Integer.MIN_VALUE, false);
        desk.pass(60);
        counts(desk, 2, 2);
    }

    private static void notTakenOfEscortsWhoCome() {
        LanternDesk desk = new LanternDesk();
        desk.setStreet(1, 0, true);
        desk.setStreet(2, 0, true);
        desk.ask(2, 3);
        desk.pass(1);
        Due.is("streetOf(0), a street with a camera", desk.streetOf(0), 1);
        counts(desk, 0, 0);
        desk.pass(1);
        counts(desk, 1, 1);
        showsBoth(desk, 2, 0, 0, true);
    }

    private static void onePictureOfEachStreetAndDay() {
        LanternDesk desk = new LanternDesk();
        desk.setStreet(0, 0, true);
        desk.setStreet(1, 0, true);
        desk.ask(0, 1);
        desk.ask(0, 1);
        desk.pass(10);
        counts(desk, 4, 4);
        showsBoth(desk, 1, 1, 0, true);
        desk.night();
        desk.ask(1, 0);
        desk.pass(10);
        counts(desk, 6, 6);
        showsBoth(desk, 1, 2, 1, true);
        showsBoth(desk, 1, 2, 0, false);
        showsBoth(desk, 1, 0, 1, false);
    }

    private static void cameraSwitchedDuringAWalk() {
        LanternDesk desk = new LanternDesk();
        desk.setStreet(0, 0, true);
        desk.ask(0, 3);
        desk.pass(1);
        desk.setStreet(0, 0, false);
        desk.setStreet(1, 0, true);
        desk.pass(1);
        desk.setStreet(2, 0, true);
        desk.setStreet(2, 0, false);
        desk.pass(2);
        counts(desk, 2, 2);
        showsBoth(desk, 0, 0, 0, true);
        showsBoth(desk, 1, 0, 0, true);
        showsBoth(desk, 2, 0, 0, false);
    }

    private static void keptForTheDaysVoted() {
        LanternDesk desk = new LanternDesk();
        desk.setStreet(0, 0, true);
        desk.setStreet(1, 0, true);
        desk.vote(1, 0, 2);
        desk.vote(1, 1, 2);
        desk.ask(0, 1);
        desk.pass(2);
        Due.is("night() to day 1", desk.night(), 0);
        showsBoth(desk, 1, 0, 0, true);
        Due.is("night() to day 2", desk.night(), 1);
        counts(desk, 1, 2);
        showsBoth(desk, 1, 0, 0, false);
        showsBoth(desk, 0, 0, 0, true);
        for (int day = 3; day <= 6; day++) {
            Due.is("night() to day " + day, desk.night(), 0);
        }
        showsBoth(desk, 0, 0, 0, true);
        Due.is("night() to day 7", desk.night(), 1);
        showsBoth(desk, 0, 0, 0, false);
        counts(desk, 0, 2);
        Due.is("night() to day 8", desk.night(), 0);
        showsBoth(desk, 0, 0, 0, false);
    }

    private static void laterVotesLeavePicturesAlone() {
        LanternDesk desk = new LanternDesk();
        desk.setStreet(0, 0, true);
        desk.vote(0, 0, 3);
        desk.vote(0, 1, 3);
        desk.ask(0, 1);
        desk.pass(2);
        desk.vote(0, 0, 1);
        desk.vote(0, 1, 1);
        desk.ask(0, 1);
        desk.pass(9);
        counts(desk, 2, 2);
        Due.is("night() to day 1", desk.night(), 1);
        showsBoth(desk, 0, 0, 0, true);
        showsBoth(desk, 0, 1, 0, false);
        desk.vote(0, 0, 30);
        desk.vote(0, 1, 30);
        Due.is("night() to day 2", desk.night(), 0);
        Due.is("night() to day 3", desk.night(), 1);
        showsBoth(desk, 0, 0, 0, false);
        counts(desk, 0, 2);
    }

    private static void longestAndShortest() {
        LanternDesk desk = new LanternDesk();
        desk.setStreet(0, 0, true);
        desk.setStreet(1, 0, true);
        for (int voter = 0; voter < 3; voter++) {
            desk.vote(0, voter, 30);
            desk.vote(1, voter, 1);
        }
        desk.night();
        desk.ask(0, 1);
        desk.pass(2);
        Due.is("night() to day 2", desk.night(), 1);
        for (int day = 3; day <= 30; day++) {
            Due.is("night() to day " + day, desk.night(), 0);
        }
        showsBoth(desk, 0, 0, 1, true);
        Due.is("night() to day 31", desk.night(), 1);
        showsBoth(desk, 0, 0, 1, false);
    }

    /** Sixty walks of five streets each: as many pictures as there can ever be. */
    private static void threeHundred() {
        LanternDesk desk = new LanternDesk();
        for (int street = 0; street < 8; street++) {
            desk.setStreet(street, 0, true);
        }
        for (int walk = 0; walk < 60; walk++) {
            desk.ask(walk % 8, (walk + 4) % 8);
        }
        for (int i = 0; i < 4; i++) {
            desk.pass(60);
        }
        counts(desk, 300, 300);
        for (int walk = 0; walk < 60; walk++) {
            showsBoth(desk, (walk + 2) % 8, walk, 0, true);
            showsBoth(desk, (walk + 6) % 8, walk, 0, false);
        }
        for (int day = 1; day <= 6; day++) {
            Due.is("night() to day " + day, desk.night(), 0);
        }
        Due.is("night() to day 7", desk.night(), 300);
        counts(desk, 0, 300);
    }

    private static void showsRefuses() {
        LanternDesk desk = new LanternDesk();
        desk.ask(0, 1);
        for (int street : new int[] {-1, 8, Integer.MIN_VALUE, Integer.MAX_VALUE}) {
            Due.isThrown("shows(" + street + ", 0, 0)", INDEX, () -> desk.shows(street, 0, 0));
            Due.isThrown("showsByPapers(" + street + ", 0, 0)", INDEX, () -> desk.showsByPapers(street, 0, 0));
        }
        for (int walk : new int[] {-1, 1, 60, Integer.MIN_VALUE, Integer.MAX_VALUE}) {
            Due.isThrown("shows(0, " + walk + ", 0)", INDEX, () -> desk.shows(0, walk, 0));
            Due.isThrown("showsByPapers(0, " + walk + ", 0)", INDEX, () -> desk.showsByPapers(0, walk, 0));
        }
        showsBoth(desk, 7, 0, 0, false);
        showsBoth(desk, 7, 0, -5, false);
    }
}
