/** Promises 10 to 19, each sentence by itself: what there is. */
public final class QuestionsTest {
    public static void main(String[] args) {
        day();
        minute();
        purse();
        purseNoStreet();
        walks();
        state();
        stateNumbers();
        stateNoWalk();
        escortOf();
        escortOfNone();
        escortOfNoWalk();
        dark();
        darkNoWalk();
        streetOf();
        streetOfNoEscort();
        rank();
        rankNoEscort();
        way();
        wayNumbers();
        wayNoStreet();
        Due.end();
    }

    private static void day() {
        Due.promise(10, "Returns the day of now");
        LanternDesk desk = new LanternDesk();
        for (int day = 0; day < 200; day++) {
            Due.is("day()", desk.day(), day);
            desk.night();
        }
        desk.pass(60);
        Due.is("day() when minutes went by", desk.day(), 200);
    }

    private static void minute() {
        Due.promise(11, "Returns the minute of now");
        LanternDesk desk = new LanternDesk();
        for (int minute = 0; minute < 150; minute++) {
            Due.is("minute()", desk.minute(), minute);
            desk.pass(1);
        }
        for (int minute = 150; minute < 930; minute += 60) {
            Due.is("minute()", desk.minute(), minute);
            desk.pass(60);
        }
        desk.pass(60);
        desk.pass(10);
        Due.is("minute()", desk.minute(), 1000);
        desk.night();
        Due.is("minute() on the next day", desk.minute(), 0);
    }

    private static void purse() {
        Due.promise(12, "Returns the purse of a street");
        LanternDesk desk = new LanternDesk();
        for (int street = 0; street < 8; street++) {
            Due.is("purse(" + street + ")", desk.purse(street), 0);
            desk.pay(street, 100 * street + 1);
        }
        desk.ask(0, 1);
        desk.pass(2);
        int[] purses = {0, 100, 201, 301, 401, 501, 601, 701};
        for (int street = 0; street < 8; street++) {
            Due.is("purse(" + street + ")", desk.purse(street), purses[street]);
        }
        desk.night();
        Due.is("purse(7) on the next day", desk.purse(7), 701);
    }

    private static void purseNoStreet() {
        Due.promise(12, "Throws IndexOutOfBoundsException if there is no such street");
        LanternDesk desk = new LanternDesk();
        for (int street : Outside.STREETS) {
            Due.isThrown("purse(" + street + ")", Due.INDEX, () -> desk.purse(street));
        }
    }

    private static void walks() {
        Due.promise(13, "Returns how many walks were asked for");
        LanternDesk desk = new LanternDesk();
        for (int asked = 0; asked < 60; asked++) {
            Due.is("walks()", desk.walks(), asked);
            desk.ask(0, 1);
        }
        Due.is("walks()", desk.walks(), 60);
        Due.isThrown("ask(0, 1)", Due.STATE, () -> desk.ask(0, 1));
        Due.is("walks(), one was refused", desk.walks(), 60);
        desk.pass(60);
        desk.night();
        Due.is("walks(), all are over", desk.walks(), 60);
    }

    private static void state() {
        Due.promise(14, "Returns the state of a walk");
        LanternDesk desk = new LanternDesk();
        desk.ask(0, 1);
        desk.pass(2);
        desk.ask(7, 3);
        desk.pass(2);
        desk.ask(7, 6);
        desk.ask(4, 5);
        desk.pass(1);
        desk.ask(0, 1);
        Scenes.states(desk, 3, 2, 2, 1, 0);
        desk.pass(2);
        Scenes.states(desk, 3, 3, 3, 2, 3);
        desk.pass(10);
        Scenes.states(desk, 3, 3, 3, 3, 3);
    }

    private static void stateNumbers() {
        Due.promise(14, "Returns 0 it waits, 1 an escort is coming, 2 an escort is with the walker, 3 it is over");
        LanternDesk desk = new LanternDesk();
        desk.ask(2, 4);
        for (int state : new int[] {0, 1, 2, 2, 3, 3}) {
            Scenes.states(desk, state);
            desk.pass(1);
        }
        desk.night();
        Scenes.states(desk, 3);
        desk.ask(4, 5);
        Due.is("state(1)", desk.state(1), 0);
        desk.pass(1);
        Due.is("state(1), never 1 where the escort is at once", desk.state(1), 2);
    }

    private static void stateNoWalk() {
        Due.promise(14, "Throws IndexOutOfBoundsException if there is no such walk");
        LanternDesk desk = new LanternDesk();
        Due.isThrown("state(0), no walks", Due.INDEX, () -> desk.state(0));
        desk.ask(0, 1);
        desk.ask(1, 0);
        for (int walk : Outside.of(0, 1)) {
            Due.isThrown("state(" + walk + ")", Due.INDEX, () -> desk.state(walk));
        }
        Scenes.states(desk, 0, 0);
    }

    private static void escortOf() {
        Due.promise(15, "Returns the escort of a walk");
        LanternDesk desk = new LanternDesk();
        for (int escort = 0; escort < 4; escort++) {
            desk.place(escort, 6 - 2 * escort);
        }
        desk.ask(0, 1);
        desk.ask(2, 4);
        desk.ask(5, 6);
        desk.ask(5, 4);
        for (int minutes = 1; minutes <= 5; minutes++) {
            desk.pass(1);
            Scenes.escorts(desk, 3, 2, 0, 1);
        }
        Scenes.states(desk, 3, 3, 3, 3);
        desk.night();
        Scenes.escorts(desk, 3, 2, 0, 1);
    }

    private static void escortOfNone() {
        Due.promise(15, "Returns the escort; -1 if it waits");
        LanternDesk desk = new LanternDesk();
        for (int i = 0; i < 6; i++) {
            desk.ask(0, 1);
        }
        Scenes.escorts(desk, -1, -1, -1, -1, -1, -1);
        desk.pass(1);
        Scenes.escorts(desk, 0, 1, 2, 3, -1, -1);
        desk.pass(1);
        Scenes.escorts(desk, 0, 1, 2, 3, -1, -1);
        desk.pass(1);
        Scenes.escorts(desk, 0, 1, 2, 3, 0, 1);
        desk.pass(10);
        Scenes.states(desk, 3, 3, 3, 3, 3, 3);
        Scenes.escorts(desk, 0, 1, 2, 3, 0, 1);
    }

    private static void escortOfNoWalk() {
        Due.promise(15, "Throws IndexOutOfBoundsException if there is no such walk");
        LanternDesk desk = new LanternDesk();
        Due.isThrown("escortOf(0), no walks", Due.INDEX, () -> desk.escortOf(0));
        desk.ask(0, 1);
        desk.ask(1, 0);
        for (int walk : Outside.of(0, 1)) {
            Due.isThrown("escortOf(" + walk + ")", Due.INDEX, () -> desk.escortOf(walk));
        }
    }

    private static void dark() {
        Due.promise(16, "Returns for how many minutes a walk was in the dark");
        LanternDesk desk = new LanternDesk();
        desk.pay(2, 10);
        desk.ask(1, 5);
        desk.ask(0, 1);
        desk.ask(0, 1);
        Due.is("dark(0), it waits", desk.dark(0), 0);
        for (int minutes : new int[] {1, 1, 2, 3, 4}) {
            desk.pass(1);
            Due.is("dark(0)", desk.dark(0), minutes);
        }
        Due.is("dark(1)", desk.dark(1), 2);
        desk.pass(60);
        Due.is("dark(0), it is over", desk.dark(0), 4);
        desk.night();
        Due.is("dark(0), on the next day", desk.dark(0), 4);
        Due.is("dark(2)", desk.dark(2), 2);
    }

    private static void darkNoWalk() {
        Due.promise(16, "Throws IndexOutOfBoundsException if there is no such walk");
        LanternDesk desk = new LanternDesk();
        Due.isThrown("dark(0), no walks", Due.INDEX, () -> desk.dark(0));
        desk.ask(0, 1);
        desk.ask(1, 0);
        for (int walk : Outside.of(0, 1)) {
            Due.isThrown("dark(" + walk + ")", Due.INDEX, () -> desk.dark(walk));
        }
    }

    private static void streetOf() {
        Due.promise(17, "Returns the street where an escort is");
        LanternDesk desk = new LanternDesk();
        for (int escort = 0; escort < 4; escort++) {
            Due.is("streetOf(" + escort + ")", desk.streetOf(escort), 0);
        }
        desk.place(2, 7);
        desk.ask(6, 1);
        Scenes.goesBy(desk, 2, 6, 7, 0, 1, 1);
        desk.ask(1, 7);
        Scenes.goesBy(desk, 2, 1, 0, 7, 7);
        desk.night();
        Due.is("streetOf(2) on the next day", desk.streetOf(2), 7);
        for (int escort : new int[] {0, 1, 3}) {
            Due.is("streetOf(" + escort + ")", desk.streetOf(escort), 0);
        }
    }

    private static void streetOfNoEscort() {
        Due.promise(17, "Throws IndexOutOfBoundsException if there is no such escort");
        LanternDesk desk = new LanternDesk();
        for (int escort : Outside.ESCORTS) {
            Due.isThrown("streetOf(" + escort + ")", Due.INDEX, () -> desk.streetOf(escort));
        }
    }

    private static void rank() {
        Due.promise(18, "Returns the rank of an escort");
        LanternDesk desk = new LanternDesk();
        for (int escort = 0; escort < 4; escort++) {
            Due.is("rank(" + escort + ")", desk.rank(escort), 50);
            desk.complain(Scenes.walkWith(desk, escort), escort % 2 == 0);
            desk.complain(Scenes.walkWith(desk, escort), escort < 2);
        }
        int[] ranks = {60, 45, 45, 30};
        for (int escort = 0; escort < 4; escort++) {
            Due.is("rank(" + escort + ")", desk.rank(escort), ranks[escort]);
        }
        desk.place(0, 5);
        desk.night();
        Due.is("rank(0) on the next day", desk.rank(0), 60);
    }

    private static void rankNoEscort() {
        Due.promise(18, "Throws IndexOutOfBoundsException if there is no such escort");
        LanternDesk desk = new LanternDesk();
        for (int escort : Outside.ESCORTS) {
            Due.isThrown("rank(" + escort + ")", Due.INDEX, () -> desk.rank(escort));
        }
    }

    private static void way() {
        Due.promise(19, "Returns how long a way is, in streets");
        LanternDesk desk = new LanternDesk();
        int[] byDifference = {0, 1, 2, 3, 4, 3, 2, 1};
        for (int from = 0; from < 8; from++) {
            for (int to = 0; to < 8; to++) {
                Due.is("way(" + from + ", " + to + ")", desk.way(from, to), byDifference[(to + 8 - from) % 8]);
            }
        }
    }

    private static void wayNumbers() {
        Due.promise(19, "Returns 0 to 4");
        LanternDesk desk = new LanternDesk();
        for (int street = 0; street < 8; street++) {
            Due.is("way(" + street + ", the same)", desk.way(street, street), 0);
            Due.is("way(" + street + ", the opposite one)", desk.way(street, (street + 4) % 8), 4);
        }
        Due.is("way(0, 7)", desk.way(0, 7), 1);
        Due.is("way(7, 0)", desk.way(7, 0), 1);
        Due.is("way(1, 6)", desk.way(1, 6), 3);
        Due.is("way(6, 1)", desk.way(6, 1), 3);
    }

    private static void wayNoStreet() {
        Due.promise(19, "Throws IndexOutOfBoundsException if there is no such street");
        LanternDesk desk = new LanternDesk();
        for (int street : Outside.STREETS) {
            Due.isThrown("way(" + street + ", 0)", Due.INDEX, () -> desk.way(street, 0));
            Due.isThrown("way(0, " + street + ")", Due.INDEX, () -> desk.way(0, street));
            Due.isThrown("way(" + street + ", " + street + ")", Due.INDEX, () -> desk.way(street, street));
        }
    }
}
