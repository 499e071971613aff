/** Promises 5 to 11 and 13 to 18: escorts, walks, minutes, nights and complaints. */
public final class WalksTest {
    private static final Class<IndexOutOfBoundsException> INDEX = IndexOutOfBoundsException.class;
    private static final Class<IllegalArgumentException> ARGUMENT = IllegalArgumentException.class;
    private static final Class<IllegalStateException> STATE = IllegalStateException.class;
    private static final int[] NO_STREETS = {-1, 8, Integer.MIN_VALUE, Integer.MAX_VALUE};
    private static final int[] NO_ESCORTS = {-1, 4, Integer.MIN_VALUE, Integer.MAX_VALUE};

    public static void main(String[] args) {
        place();
        ask();
        askAtTheLimit();
        statesOfAWalk();
        escortComesAndGoesOn();
        bothSidesAsLong();
        nearestEscortFirst();
        highestRankOfAsNear();
        walksByRisingNumbers();
        freedEscortsWaitForTheNextMinute();
        lightsAndDark();
        passRefuses();
        night();
        lastDay();
        complain();
        ranksHaveBounds();
        whatIsAskedOfNoWalk();
        whatIsAskedOfNoEscort();
        Due.end();
    }

    private static void place() {
        LanternDesk desk = new LanternDesk();
        Due.is("place(0, 5)", desk.place(0, 5), 0);
        Due.is("place(0, 7)", desk.place(0, 7), 5);
        Due.is("place(0, 7) again", desk.place(0, 7), 7);
        Due.is("place(3, 1)", desk.place(3, 1), 0);
        Due.is("streetOf(0)", desk.streetOf(0), 7);
        Due.is("streetOf(1)", desk.streetOf(1), 0);
        Due.is("streetOf(3)", desk.streetOf(3), 1);
        desk.ask(6, 4);
        desk.pass(1);
        Due.isThrown("place(0, 2) of one who is with a walker", STATE, () -> desk.place(0, 2));
        Due.isThrown("place(0, 8) of one who is with a walker", INDEX, () -> desk.place(0, 8));
        desk.ask(4, 3);
        desk.pass(1);
        Due.is("the second walk's escort", desk.escortOf(1), 3);
        Due.isThrown("place(3, 2) of one who comes", STATE, () -> desk.place(3, 2));
        Due.is("streetOf(3) behind that", desk.streetOf(3), 2);
        desk.pass(60);
        Due.is("place(0, 2) when the walk is over", desk.place(0, 2), 4);
        for (int escort : NO_ESCORTS) {
            Due.isThrown("place(" + escort + ", 0)", INDEX, () -> desk.place(escort, 0));
        }
        for (int street : NO_STREETS) {
            Due.isThrown("place(1, " + street + ")", INDEX, () -> desk.place(1, street));
        }
    }

    private static void ask() {
        LanternDesk desk = new LanternDesk();
        Due.is("ask(0, 7)", desk.ask(0, 7), 0);
        Due.is("walks()", desk.walks(), 1);
        Due.is("ask(7, 0)", desk.ask(7, 0), 1);
        Due.is("walks()", desk.walks(), 2);
        for (int street : NO_STREETS) {
            Due.isThrown("ask(" + street + ", 0)", INDEX, () -> desk.ask(street, 0));
            Due.isThrown("ask(0, " + street + ")", INDEX, () -> desk.ask(0, street));
            Due.isThrown("ask(" + street + ", " + street + ")", INDEX, () -> desk.ask(street, street));
        }
        for (int street = 0; street < 8; street++) {
            int same = street;
            Due.isThrown("ask(" + street + ", " + street + ")", ARGUMENT, () -> desk.ask(same, same));
        }
        Due.is("walks() behind all that", desk.walks(), 2);
    }

    private static void askAtTheLimit() {
        LanternDesk desk = new LanternDesk();
        for (int i = 0; i < 60; i++) {
            Due.is("ask", desk.ask(i % 8, (i + 1) % 8), i);
        }
        Due.is("walks()", desk.walks(), 60);
        Due.isThrown("ask(0, 1) the 61st time", STATE, () -> desk.ask(0, 1));
        Due.isThrown("ask(0, 0) the 61st time", ARGUMENT, () -> desk.ask(0, 0));
        Due.isThrown("ask(0, 8) the 61st time", INDEX, () -> desk.ask(0, 8));
        Due.is("walks()", desk.walks(), 60);
        Due.is("state(59)", desk.state(59), 0);
        Due.isThrown("state(60)", INDEX, () -> desk.state(60));
        int ended = 0;
        for (int i = 0; i < 10; i++) {
            ended += desk.pass(60);
        }
        Due.is("how many are over", ended, 60);
        Due.isThrown("ask(0, 1) when all are over", STATE, () -> desk.ask(0, 1));
    }

    private static void statesOfAWalk() {
        LanternDesk desk = new LanternDesk();
        desk.ask(2, 1);
        Due.is("state(0), it waits", desk.state(0), 0);
        Due.is("escortOf(0), it waits", desk.escortOf(0), -1);
        Due.is("pass(1)", desk.pass(1), 0);
        Due.is("state(0), an escort is coming", desk.state(0), 1);
        Due.is("escortOf(0)", desk.escortOf(0), 0);
        Due.is("streetOf(0)", desk.streetOf(0), 1);
        Due.is("dark(0)", desk.dark(0), 0);
        Due.is("pass(1)", desk.pass(1), 0);
        Due.is("state(0), the escort is there", desk.state(0), 2);
        Due.is("streetOf(0)", desk.streetOf(0), 2);
        Due.is("dark(0)", desk.dark(0), 1);
        Due.is("pass(1)", desk.pass(1), 1);
        Due.is("state(0), it is over", desk.state(0), 3);
        Due.is("escortOf(0), it is over", desk.escortOf(0), 0);
        Due.is("streetOf(0)", desk.streetOf(0), 1);
        Due.is("dark(0)", desk.dark(0), 2);
        Due.is("minute()", desk.minute(), 3);
        Due.is("pass(60)", desk.pass(60), 0);
        Due.is("state(0)", desk.state(0), 3);
        Due.is("dark(0)", desk.dark(0), 2);
        Due.is("streetOf(0)", desk.streetOf(0), 1);
        Due.is("minute()", desk.minute(), 63);
    }

    private static void escortComesAndGoesOn() {
        for (int from = 0; from < 8; from++) {
            for (int to = 0; to < 8; to++) {
                if (from != to) {
                    LanternDesk desk = new LanternDesk();
                    desk.ask(from, to);
                    int minutes = Math.max(1, desk.way(0, from)) + desk.way(from, to);
                    if (minutes > 1) {
                        Due.is("over too early", desk.pass(minutes - 1), 0);
                    }
                    Due.is("over in time", desk.pass(1), 1);
                    Due.is("the escort's street", desk.streetOf(0), to);
                    Due.is("the minutes in the dark", desk.dark(0), desk.way(from, to) + 1);
                }
            }
        }
    }

    private static void bothSidesAsLong() {
        LanternDesk desk = new LanternDesk();
        desk.place(0, 6);
        desk.place(1, 7);
        desk.place(2, 7);
        desk.place(3, 7);
        desk.ask(6, 2);
        int[] streets = {6, 7, 0, 1, 2};
        for (int street : streets) {
            desk.pass(1);
            Due.is("the way from 6 to 2 goes up", desk.streetOf(0), street);
        }
        for (int escort = 0; escort < 4; escort++) {
            desk.place(escort, 5);
        }
        desk.ask(1, 2);
        int[] coming = {6, 7, 0, 1};
        for (int street : coming) {
            desk.pass(1);
            Due.is("the way from 5 to 1 goes up", desk.streetOf(0), street);
        }
        LanternDesk down = new LanternDesk();
        down.ask(0, 5);
        int[] falling = {0, 7, 6, 5};
        for (int street : falling) {
            down.pass(1);
            Due.is("the way from 0 to 5 goes down", down.streetOf(0), street);
        }
    }

    private static void nearestEscortFirst() {
        LanternDesk desk = new LanternDesk();
        desk.place(0, 4);
        desk.place(1, 2);
        desk.place(2, 7);
        desk.place(3, 3);
        desk.ask(0, 4);
        desk.pass(1);
        Due.is("7 is nearest to 0", desk.escortOf(0), 2);
        desk.ask(0, 4);
        desk.pass(1);
        Due.is("then 2", desk.escortOf(1), 1);
        desk.ask(0, 4);
        desk.pass(1);
        Due.is("then 3", desk.escortOf(2), 3);
    }

    private static void highestRankOfAsNear() {
        LanternDesk desk = new LanternDesk();
        desk.ask(0, 1);
        desk.pass(2);
        Due.is("complain(0, false)", desk.complain(0, false), 40);
        desk.place(0, 0);
        desk.ask(0, 1);
        desk.pass(1);
        Due.is("the lowest number of rank 50", desk.escortOf(1), 1);
        desk.pass(1);
        Due.is("complain(1, true)", desk.complain(1, true), 55);
        desk.place(0, 0);
        desk.place(1, 2);
        desk.place(2, 0);
        desk.ask(1, 3);
        desk.pass(1);
        Due.is("the highest rank, both sides as long", desk.escortOf(2), 1);
        desk.ask(0, 3);
        desk.pass(1);
        Due.is("the nearer one of rank 50", desk.escortOf(3), 2);
    }

    private static void walksByRisingNumbers() {
        LanternDesk desk = new LanternDesk();
        desk.place(1, 1);
        desk.place(2, 2);
        desk.place(3, 3);
        for (int i = 0; i < 6; i++) {
            desk.ask(3, 4);
        }
        desk.pass(1);
        int[] escorts = {3, 2, 1, 0, -1, -1};
        for (int walk = 0; walk < escorts.length; walk++) {
            Due.is("escortOf(" + walk + ")", desk.escortOf(walk), escorts[walk]);
        }
        Due.is("state(0)", desk.state(0), 2);
        Due.is("state(1)", desk.state(1), 2);
        Due.is("state(2)", desk.state(2), 1);
        Due.is("state(4)", desk.state(4), 0);
    }

    private static void freedEscortsWaitForTheNextMinute() {
        LanternDesk desk = new LanternDesk();
        for (int i = 0; i < 5; i++) {
            desk.ask(0, 1);
        }
        Due.is("pass(1)", desk.pass(1), 0);
        Due.is("pass(1)", desk.pass(1), 4);
        Due.is("state(4) still", desk.state(4), 0);
        Due.is("pass(1)", desk.pass(1), 0);
        Due.is("state(4) with the one who came back", desk.state(4), 2);
        Due.is("escortOf(4)", desk.escortOf(4), 0);
        Due.is("pass(1)", desk.pass(1), 1);
    }

    private static void lightsAndDark() {
        LanternDesk desk = new LanternDesk();
        desk.setStreet(0, 50, false);
        desk.setStreet(1, 0, false);
        desk.pay(0, 149);
        desk.pay(2, 1);
        for (int i = 0; i < 3; i++) {
            desk.ask(0, 2);
        }
        desk.pass(1);
        Due.is("purse(0), each walk paid by itself", desk.purse(0), 49);
        Due.is("dark(0)", desk.dark(0), 0);
        Due.is("dark(1)", desk.dark(1), 0);
        Due.is("dark(2), no money for it", desk.dark(2), 1);
        desk.pass(1);
        Due.is("purse(1), light for nothing", desk.purse(1), 0);
        Due.is("dark(2)", desk.dark(2), 1);
        Due.is("pass(1)", desk.pass(1), 3);
        Due.is("purse(2), lit at the end too", desk.purse(2), 0);
        Due.is("dark(0)", desk.dark(0), 0);
        Due.is("dark(1)", desk.dark(1), 1);
        Due.is("dark(2)", desk.dark(2), 2);
        LanternDesk exact = new LanternDesk();
        exact.setStreet(1, 50, false);
        exact.pay(1, 100);
        exact.ask(1, 2);
        exact.pass(1);
        Due.is("purse(1) just enough", exact.purse(1), 50);
        exact.pass(1);
        Due.is("purse(1) when they are gone", exact.purse(1), 50);
        exact.ask(3, 2);
        exact.pass(1);
        Due.is("purse(1) when nobody is there with an escort", exact.purse(1), 50);
    }

    private static void passRefuses() {
        LanternDesk desk = new LanternDesk();
        for (int minutes : new int[] {0, -1, 61, Integer.MIN_VALUE, Integer.MAX_VALUE}) {
            Due.isThrown("pass(" + minutes + ")", ARGUMENT, () -> desk.pass(minutes));
        }
        Due.is("minute()", desk.minute(), 0);
        for (int i = 0; i < 16; i++) {
            desk.pass(60);
        }
        desk.ask(0, 1);
        Due.isThrown("pass(41) at 960", STATE, () -> desk.pass(41));
        Due.isThrown("pass(61) at 960", ARGUMENT, () -> desk.pass(61));
        Due.is("minute() behind that", desk.minute(), 960);
        Due.is("state(0) behind that", desk.state(0), 0);
        desk.pass(39);
        Due.is("minute()", desk.minute(), 999);
        Due.isThrown("pass(2) at 999", STATE, () -> desk.pass(2));
        desk.pass(1);
        Due.is("minute()", desk.minute(), 1000);
        Due.isThrown("pass(1) at 1000", STATE, () -> desk.pass(1));
        Due.isThrown("pass(0) at 1000", ARGUMENT, () -> desk.pass(0));
        desk.night();
        Due.is("minute() behind the night", desk.minute(), 0);
        Due.is("pass(60) behind the night", desk.pass(60), 0);
        Due.is("minute()", desk.minute(), 60);
    }

    private static void night() {
        LanternDesk desk = new LanternDesk();
        Due.is("night() of nothing", desk.night(), 0);
        Due.is("day()", desk.day(), 1);
        desk.pass(5);
        desk.ask(1, 0);
        Due.isThrown("night() when one waits", STATE, desk::night);
        desk.pass(1);
        Due.is("state(0)", desk.state(0), 2);
        Due.isThrown("night() when one has an escort", STATE, desk::night);
        desk.ask(4, 0);
        desk.pass(1);
        Due.is("state(1)", desk.state(1), 1);
        Due.isThrown("night() when an escort is coming", STATE, desk::night);
        Due.is("day()", desk.day(), 1);
        Due.is("minute()", desk.minute(), 7);
        desk.pass(20);
        Due.is("night()", desk.night(), 0);
        Due.is("day()", desk.day(), 2);
        Due.is("minute()", desk.minute(), 0);
        Due.is("walks() behind the night", desk.walks(), 2);
        Due.is("state(1) behind the night", desk.state(1), 3);
        for (int i = 0; i < 400; i++) {
            Due.is("night()", desk.night(), 0);
        }
        Due.is("day()", desk.day(), 402);
    }

    /** The last day lies behind 512 calls, where the document leaves the answers free; the bound is kept there too. */
    private static void lastDay() {
        LanternDesk desk = new LanternDesk();
        for (int i = 0; i < 1000; i++) {
            desk.night();
        }
        Due.is("day()", desk.day(), 1000);
        desk.pass(3);
        Due.isThrown("night() at day 1000", STATE, desk::night);
        Due.is("day()", desk.day(), 1000);
        Due.is("minute()", desk.minute(), 3);
    }

    private static void complain() {
        LanternDesk desk = new LanternDesk();
        desk.place(2, 3);
        desk.ask(3, 4);
        Due.isThrown("complain(0, true) when it waits", STATE, () -> desk.complain(0, true));
        Due.isThrown("complain(1, true)", INDEX, () -> desk.complain(1, true));
        Due.isThrown("complain(-1, true)", INDEX, () -> desk.complain(-1, true));
        desk.pass(1);
        Due.isThrown("complain(0, false) when they walk", STATE, () -> desk.complain(0, false));
        desk.pass(1);
        Due.is("complain(0, true)", desk.complain(0, true), 55);
        Due.is("rank(2)", desk.rank(2), 55);
        Due.is("rank(0)", desk.rank(0), 50);
        Due.isThrown("complain(0, true) again", STATE, () -> desk.complain(0, true));
        Due.isThrown("complain(0, false) again", STATE, () -> desk.complain(0, false));
        Due.is("rank(2)", desk.rank(2), 55);
        desk.ask(4, 3);
        desk.pass(2);
        desk.night();
        Due.is("complain(1, false) a day later", desk.complain(1, false), 45);
        Due.isThrown("complain(1, true) behind it", STATE, () -> desk.complain(1, true));
        Due.isThrown("complain(2, true)", INDEX, () -> desk.complain(2, true));
    }

    private static void ranksHaveBounds() {
        LanternDesk desk = new LanternDesk();
        keepAway(desk);
        int[] falling = {40, 30, 20, 10, 0, 0};
        for (int walk = 0; walk < falling.length; walk++) {
            walkWithEscort0(desk);
            Due.is("complain(" + walk + ", false)", desk.complain(walk, false), falling[walk]);
        }
        for (int i = 0; i < 22; i++) {
            walkWithEscort0(desk);
            Due.is("praise", desk.complain(falling.length + i, true), Math.min(100, 5 * (i + 1)));
        }
        Due.is("rank(0)", desk.rank(0), 100);
        walkWithEscort0(desk);
        Due.is("complaint at 100", desk.complain(28, false), 90);
        LanternDesk odd = new LanternDesk();
        keepAway(odd);
        walkWithEscort0(odd);
        Due.is("praise to 55", odd.complain(0, true), 55);
        int[] oddFalling = {45, 35, 25, 15, 5, 0};
        for (int i = 0; i < oddFalling.length; i++) {
            walkWithEscort0(odd);
            Due.is("complaint from 55", odd.complain(i + 1, false), oddFalling[i]);
        }
    }

    private static void keepAway(LanternDesk desk) {
        for (int escort = 1; escort < 4; escort++) {
            desk.place(escort, 4);
        }
    }

    private static void walkWithEscort0(LanternDesk desk) {
        int walk = desk.ask(0, 1);
        desk.place(0, 0);
        Due.is("pass(2)", desk.pass(2), 1);
        Due.is("escortOf(" + walk + ")", desk.escortOf(walk), 0);
    }

    private static void whatIsAskedOfNoWalk() {
        LanternDesk desk = new LanternDesk();
        desk.ask(0, 1);
        for (int walk : new int[] {-1, 1, 60, Integer.MIN_VALUE, Integer.MAX_VALUE}) {
            Due.isThrown("state(" + walk + ")", INDEX, () -> desk.state(walk));
            Due.isThrown("escortOf(" + walk + ")", INDEX, () -> desk.escortOf(walk));
            Due.isThrown("dark(" + walk + ")", INDEX, () -> desk.dark(walk));
            Due.isThrown("complain(" + walk + ", true)", INDEX, () -> desk.complain(walk, true));
        }
    }

    private static void whatIsAskedOfNoEscort() {
        LanternDesk desk = new LanternDesk();
        for (int escort : NO_ESCORTS) {
            Due.isThrown("streetOf(" + escort + ")", INDEX, () -> desk.streetOf(escort));
            Due.isThrown("rank(" + escort + ")", INDEX, () -> desk.rank(escort));
        }
    }
}
