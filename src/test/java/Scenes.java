/** Short runs of calls that many tests begin with. */
final class Scenes {
    private Scenes() {
    }

    static void placeAll(LanternDesk desk, int street) {
        for (int escort = 0; escort < 4; escort++) {
            desk.place(escort, street);
        }
    }

    /** A camera in each street, and light for nothing. */
    static LanternDesk withCameras() {
        LanternDesk desk = new LanternDesk();
        for (int street = 0; street < 8; street++) {
            desk.setStreet(street, 0, true);
        }
        return desk;
    }

    static void voteAll(LanternDesk desk, int street, int days) {
        for (int voter = 0; voter < 3; voter++) {
            desk.vote(street, voter, days);
        }
    }

    /** A walk from 0 to 1 that is over two minutes later; the escort of that number goes with it. */
    static int walkWith(LanternDesk desk, int escort) {
        for (int other = 0; other < 4; other++) {
            desk.place(other, other == escort ? 0 : 4);
        }
        int walk = desk.ask(0, 1);
        desk.pass(2);
        Due.is("escortOf(" + walk + ")", desk.escortOf(walk), escort);
        Due.is("state(" + walk + ")", desk.state(walk), 3);
        return walk;
    }

    /** A desk at that minute, where nothing else was done. */
    static LanternDesk atMinute(int minute) {
        LanternDesk desk = new LanternDesk();
        for (int left = minute; left > 0; left -= 60) {
            desk.pass(Math.min(60, left));
        }
        return desk;
    }

    static void nights(LanternDesk desk, int count) {
        for (int i = 0; i < count; i++) {
            desk.night();
        }
    }

    /** Lets a minute go by for each of these streets, where the escort is then. */
    static void goesBy(LanternDesk desk, int escort, int... streets) {
        for (int street : streets) {
            desk.pass(1);
            Due.is("streetOf(" + escort + ") at minute " + desk.minute(), desk.streetOf(escort), street);
        }
    }

    static void states(LanternDesk desk, int... states) {
        for (int walk = 0; walk < states.length; walk++) {
            Due.is("state(" + walk + ")", desk.state(walk), states[walk]);
        }
    }

    static void escorts(LanternDesk desk, int... escorts) {
        for (int walk = 0; walk < escorts.length; walk++) {
            Due.is("escortOf(" + walk + ")", desk.escortOf(walk), escorts[walk]);
        }
    }

    static void shows(LanternDesk desk, int street, int walk, int day, boolean want) {
        String arguments = "(" + street + ", " + walk + ", " + day + ")";
        Due.is("shows" + arguments, desk.shows(street, walk, day), want);
        Due.is("showsByPapers" + arguments, desk.showsByPapers(street, walk, day), want);
    }

    static void counts(LanternDesk desk, int pictures, int taken) {
        Due.is("pictures()", desk.pictures(), pictures);
        Due.is("taken()", desk.taken(), taken);
    }
}
