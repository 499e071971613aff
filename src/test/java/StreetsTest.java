/** Promises 1 to 4, 12 and 19: a new object, purses, prices, cameras, votes and the ring. */
public final class StreetsTest {
    private static final Class<IndexOutOfBoundsException> INDEX = IndexOutOfBoundsException.class;
    private static final Class<IllegalArgumentException> ARGUMENT = IllegalArgumentException.class;
    private static final Class<IllegalStateException> STATE = IllegalStateException.class;
    private static final int[] NO_STREETS = {-1, 8, 9, Integer.MIN_VALUE, Integer.MAX_VALUE};

    public static void main(String[] args) {
        newObject();
        pay();
        payRefuses();
        setStreet();
        setStreetRefuses();
        vote();
        middleOfAllVotes();
        voteRefuses();
        purse();
        way();
        Due.end();
    }

    private static void newObject() {
        LanternDesk desk = new LanternDesk();
        Due.is("day()", desk.day(), 0);
        Due.is("minute()", desk.minute(), 0);
        Due.is("walks()", desk.walks(), 0);
        Due.is("pictures()", desk.pictures(), 0);
        Due.is("taken()", desk.taken(), 0);
        for (int street = 0; street < 8; street++) {
            Due.is("purse of a new street", desk.purse(street), 0);
            Due.is("price of a new street", desk.setStreet(street, 0, false), 1);
        }
        for (int escort = 0; escort < 4; escort++) {
            Due.is("street of a new escort", desk.streetOf(escort), 0);
            Due.is("rank of a new escort", desk.rank(escort), 50);
        }
    }

    private static void pay() {
        LanternDesk desk = new LanternDesk();
        Due.is("pay(0, 1)", desk.pay(0, 1), 1);
        Due.is("pay(7, 10000)", desk.pay(7, 10000), 10000);
        Due.is("pay(0, 41)", desk.pay(0, 41), 42);
        Due.is("purse(0)", desk.purse(0), 42);
        Due.is("purse(7)", desk.purse(7), 10000);
        Due.is("purse(1)", desk.purse(1), 0);
        LanternDesk rich = new LanternDesk();
        for (int i = 1; i <= 9; i++) {
            Due.is("pay(3, 10000)", rich.pay(3, 10000), 10000 * i);
        }
        Due.is("pay(3, 9999)", rich.pay(3, 9999), 99999);
        Due.isThrown("pay(3, 2) at 99999", STATE, () -> rich.pay(3, 2));
        Due.is("purse(3) behind it", rich.purse(3), 99999);
        Due.is("pay(3, 1)", rich.pay(3, 1), 100000);
        Due.isThrown("pay(3, 1) at 100000", STATE, () -> rich.pay(3, 1));
        Due.isThrown("pay(3, 10000) at 100000", STATE, () -> rich.pay(3, 10000));
        Due.isThrown("pay(3, 0) at 100000", ARGUMENT, () -> rich.pay(3, 0));
        Due.isThrown("pay(3, 10001) at 100000", ARGUMENT, () -> rich.pay(3, 10001));
        Due.is("purse(3) in the end", rich.purse(3), 100000);
        Due.is("pay(4, 1) beside it", rich.pay(4, 1), 1);
    }

    private static void payRefuses() {
        LanternDesk desk = new LanternDesk();
        for (int street : NO_STREETS) {
            Due.isThrown("pay(" + street + ", 1)", INDEX, () -> desk.pay(street, 1));
            Due.isThrown("pay(" + street + ", 0)", INDEX, () -> desk.pay(street, 0));
        }
        for (int coins : new int[] {0, -1, 10001, Integer.MIN_VALUE, Integer.MAX_VALUE}) {
            Due.isThrown("pay(2, " + coins + ")", ARGUMENT, () -> desk.pay(2, coins));
        }
        Due.is("purse(2) behind all that", desk.purse(2), 0);
    }

    private static void setStreet() {
        LanternDesk desk = new LanternDesk();
        Due.is("setStreet(0, 50, true)", desk.setStreet(0, 50, true), 1);
        Due.is("setStreet(0, 0, false)", desk.setStreet(0, 0, false), 50);
        Due.is("setStreet(0, 7, false)", desk.setStreet(0, 7, false), 0);
        Due.is("setStreet(7, 2, false)", desk.setStreet(7, 2, false), 1);
        Due.is("setStreet(0, 7, false) again", desk.setStreet(0, 7, false), 7);
    }

    private static void setStreetRefuses() {
        LanternDesk desk = new LanternDesk();
        for (int street : NO_STREETS) {
            Due.isThrown("setStreet(" + street + ", 1, true)", INDEX, () -> desk.setStreet(street, 1, true));
            Due.isThrown("setStreet(" + street + ", 51, true)", INDEX, () -> desk.setStreet(street, 51, true));
        }
        for (int price : new int[] {-1, 51, Integer.MIN_VALUE, Integer.MAX_VALUE}) {
            Due.isThrown("setStreet(0, " + price + ", true)", ARGUMENT, () -> desk.setStreet(0, price, true));
        }
        desk.ask(0, 1);
        desk.pass(1);
        Due.is("taken() where the camera was refused", desk.taken(), 0);
        Due.is("price behind all that", desk.setStreet(0, 3, true), 1);
    }

    private static void vote() {
        LanternDesk desk = new LanternDesk();
        Due.is("vote(0, 0, 1)", desk.vote(0, 0, 1), 7);
        Due.is("vote(0, 1, 30)", desk.vote(0, 1, 30), 7);
        Due.is("vote(0, 2, 30)", desk.vote(0, 2, 30), 30);
        Due.is("vote(0, 0, 29)", desk.vote(0, 0, 29), 30);
        Due.is("vote(0, 1, 28)", desk.vote(0, 1, 28), 29);
        Due.is("vote(7, 2, 8)", desk.vote(7, 2, 8), 7);
        Due.is("vote(7, 0, 9)", desk.vote(7, 0, 9), 8);
        Due.is("vote(7, 0, 9) again", desk.vote(7, 0, 9), 8);
        for (int street = 0; street < 8; street++) {
            for (int voter = 0; voter < 3; voter++) {
                LanternDesk fresh = new LanternDesk();
                Due.is("one vote for 1 day", fresh.vote(street, voter, 1), 7);
                Due.is("one vote for 30 days", fresh.vote(street, voter, 30), 7);
            }
        }
    }

    private static void middleOfAllVotes() {
        int[] days = {1, 2, 7, 29, 30};
        for (int first : days) {
            for (int second : days) {
                for (int third : days) {
                    LanternDesk desk = new LanternDesk();
                    desk.vote(5, 0, first);
                    desk.vote(5, 1, second);
                    int[] sorted = {first, second, third};
                    java.util.Arrays.sort(sorted);
                    Due.is("the middle of " + java.util.Arrays.toString(sorted), desk.vote(5, 2, third), sorted[1]);
                }
            }
        }
    }

    private static void voteRefuses() {
        LanternDesk desk = new LanternDesk();
        for (int street : NO_STREETS) {
            Due.isThrown("vote(" + street + ", 0, 1)", INDEX, () -> desk.vote(street, 0, 1));
            Due.isThrown("vote(" + street + ", 0, 0)", INDEX, () -> desk.vote(street, 0, 0));
        }
        for (int voter : new int[] {-1, 3, 4, Integer.MIN_VALUE, Integer.MAX_VALUE}) {
            Due.isThrown("vote(0, " + voter + ", 1)", INDEX, () -> desk.vote(0, voter, 1));
            Due.isThrown("vote(0, " + voter + ", 31)", INDEX, () -> desk.vote(0, voter, 31));
        }
        for (int days : new int[] {0, -1, 31, Integer.MIN_VALUE, Integer.MAX_VALUE}) {
            for (int voter = 0; voter < 3; voter++) {
                int voting = voter;
                Due.isThrown("vote(0, " + voter + ", " + days + ")", ARGUMENT, () -> desk.vote(0, voting, days));
            }
        }
        Due.is("vote(0, 0, 7) behind all that", desk.vote(0, 0, 7), 7);
        Due.is("vote(0, 0, 1) behind all that", desk.vote(0, 0, 1), 7);
    }

    private static void purse() {
        LanternDesk desk = new LanternDesk();
        for (int street = 0; street < 8; street++) {
            desk.pay(street, street + 1);
        }
        for (int street = 0; street < 8; street++) {
            Due.is("purse(" + street + ")", desk.purse(street), street + 1);
        }
        for (int street : NO_STREETS) {
            Due.isThrown("purse(" + street + ")", INDEX, () -> desk.purse(street));
        }
    }

    private static void way() {
        LanternDesk desk = new LanternDesk();
        int[] waysByDifference = {0, 1, 2, 3, 4, 3, 2, 1};
        for (int from = 0; from < 8; from++) {
            for (int to = 0; to < 8; to++) {
                Due.is("way(" + from + ", " + to + ")", desk.way(from, to), waysByDifference[(to - from + 8) % 8]);
            }
        }
        for (int street : NO_STREETS) {
            Due.isThrown("way(" + street + ", 0)", INDEX, () -> desk.way(street, 0));
            Due.isThrown("way(0, " + street + ")", INDEX, () -> desk.way(0, street));
            Due.isThrown("way(" + street + ", " + street + ")", INDEX, () -> desk.way(street, street));
        }
    }
}
