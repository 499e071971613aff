import java.util.Arrays;

/** Promises 1 to 4, each sentence by itself: a new object, purses, prices and cameras, votes. */
public final class StreetsTest {
    public static void main(String[] args) {
        newObject();
        pay();
        payCoins();
        payReturns();
        payNoStreet();
        payOutOfRange();
        payTooMuch();
        setStreet();
        setStreetPrice();
        setStreetCamera();
        setStreetReturns();
        setStreetNoStreet();
        setStreetOutOfRange();
        vote();
        voteDays();
        voteReturns();
        voteNoStreetOrVoter();
        voteOutOfRange();
        Due.end();
    }

    private static void newObject() {
        Due.promise(1, "No walks and pictures; the day 0, the minute 0");
        LanternDesk desk = new LanternDesk();
        Due.is("walks()", desk.walks(), 0);
        Due.is("pictures()", desk.pictures(), 0);
        Due.is("taken()", desk.taken(), 0);
        Due.is("day()", desk.day(), 0);
        Due.is("minute()", desk.minute(), 0);
        LanternDesk used = new LanternDesk();
        used.setStreet(0, 9, true);
        used.pay(0, 500);
        used.vote(0, 1, 1);
        used.complain(Scenes.walkWith(used, 3), true);
        used.night();
        Due.is("a new object beside a used one", Snapshot.of(new LanternDesk()), Snapshot.of(desk));
        Due.is("a used object beside a new one", used.day(), 1);
    }

    private static void pay() {
        Due.promise(2, "Pays into the purse of a street");
        LanternDesk desk = new LanternDesk();
        for (int street = 0; street < 8; street++) {
            desk.pay(street, 10 + street);
        }
        for (int street = 0; street < 8; street++) {
            Due.is("purse(" + street + ")", desk.purse(street), 10 + street);
        }
        desk.pay(3, 100);
        Due.is("purse(3)", desk.purse(3), 113);
        Due.is("purse(2)", desk.purse(2), 12);
        Due.is("purse(4)", desk.purse(4), 14);
    }

    private static void payCoins() {
        Due.promise(2, "coins: 1 to 10000");
        LanternDesk desk = new LanternDesk();
        Due.is("pay(0, 1)", desk.pay(0, 1), 1);
        Due.is("pay(1, 10000)", desk.pay(1, 10000), 10000);
        Due.is("pay(2, 2)", desk.pay(2, 2), 2);
        Due.is("pay(3, 9999)", desk.pay(3, 9999), 9999);
        Due.isThrown("pay(4, 0)", Due.ARGUMENT, () -> desk.pay(4, 0));
        Due.isThrown("pay(4, 10001)", Due.ARGUMENT, () -> desk.pay(4, 10001));
    }

    private static void payReturns() {
        Due.promise(2, "Returns its purse then");
        LanternDesk desk = new LanternDesk();
        Due.is("pay(6, 5)", desk.pay(6, 5), 5);
        Due.is("pay(6, 5) again", desk.pay(6, 5), 10);
        Due.is("pay(5, 7)", desk.pay(5, 7), 7);
        desk.place(0, 6);
        desk.ask(6, 5);
        desk.pass(1);
        Due.is("pay(6, 1) behind a minute of light", desk.pay(6, 1), 10);
    }

    private static void payNoStreet() {
        Due.promise(2, "Throws IndexOutOfBoundsException if there is no such street");
        LanternDesk desk = new LanternDesk();
        for (int street : Outside.STREETS) {
            Due.isThrown("pay(" + street + ", 1)", Due.INDEX, () -> desk.pay(street, 1));
            Due.isThrown("pay(" + street + ", 10000)", Due.INDEX, () -> desk.pay(street, 10000));
        }
        Due.is("pay(0, 1)", desk.pay(0, 1), 1);
        Due.is("pay(7, 1)", desk.pay(7, 1), 1);
    }

    private static void payOutOfRange() {
        Due.promise(2, "Throws IllegalArgumentException if coins is out of range");
        LanternDesk desk = new LanternDesk();
        desk.pay(2, 10000);
        for (int coins : Outside.of(1, 10000)) {
            Due.isThrown("pay(2, " + coins + ")", Due.ARGUMENT, () -> desk.pay(2, coins));
        }
        Due.is("purse(2)", desk.purse(2), 10000);
    }

    private static void payTooMuch() {
        Due.promise(2, "Throws IllegalStateException if it would have more than 100000");
        LanternDesk desk = new LanternDesk();
        for (int i = 1; i <= 9; i++) {
            Due.is("pay(3, 10000)", desk.pay(3, 10000), 10000 * i);
        }
        Due.is("pay(3, 1)", desk.pay(3, 1), 90001);
        Due.isThrown("pay(3, 10000) at 90001", Due.STATE, () -> desk.pay(3, 10000));
        Due.is("purse(3)", desk.purse(3), 90001);
        Due.is("pay(3, 9998)", desk.pay(3, 9998), 99999);
        Due.isThrown("pay(3, 2) at 99999", Due.STATE, () -> desk.pay(3, 2));
        Due.is("pay(3, 1), 100000 is not too much", desk.pay(3, 1), 100000);
        for (int coins : new int[] {1, 2, 9999, 10000}) {
            Due.isThrown("pay(3, " + coins + ") at 100000", Due.STATE, () -> desk.pay(3, coins));
        }
        Due.is("purse(3)", desk.purse(3), 100000);
        Due.is("pay(4, 10000), another street", desk.pay(4, 10000), 10000);
        desk.place(0, 3);
        desk.ask(3, 4);
        desk.pass(1);
        Due.is("pay(3, 1) behind a minute of light", desk.pay(3, 1), 100000);
        LanternDesk atOnce = new LanternDesk();
        for (int i = 1; i <= 10; i++) {
            Due.is("pay(0, 10000), the last one fills it", atOnce.pay(0, 10000), 10000 * i);
        }
        Due.isThrown("pay(0, 1)", Due.STATE, () -> atOnce.pay(0, 1));
    }

    private static void setStreet() {
        Due.promise(3, "Sets the price and the camera of a street");
        LanternDesk desk = new LanternDesk();
        for (int street = 0; street < 8; street++) {
            desk.setStreet(street, street, street % 2 == 0);
        }
        for (int street = 0; street < 8; street++) {
            desk.pay(street, 100);
        }
        desk.ask(0, 4);
        desk.ask(4, 0);
        desk.pass(20);
        for (int street = 0; street < 8; street++) {
            boolean isOfBoth = street == 0 || street == 4;
            Due.is("purse(" + street + ")", desk.purse(street), isOfBoth ? 100 - 2 * street : 100 - street);
            Scenes.shows(desk, street, 0, 0, street <= 4 && street % 2 == 0);
            Scenes.shows(desk, street, 1, 0, (street >= 4 || street == 0) && street % 2 == 0);
        }
    }

    private static void setStreetPrice() {
        Due.promise(3, "price: 0 to 50");
        LanternDesk desk = new LanternDesk();
        for (int price = 0; price <= 50; price++) {
            Due.is("setStreet(2, " + price + ", false)", desk.setStreet(2, price, false), price == 0 ? 1 : price - 1);
        }
        Due.isThrown("setStreet(2, 51, false)", Due.ARGUMENT, () -> desk.setStreet(2, 51, false));
        Due.isThrown("setStreet(2, -1, false)", Due.ARGUMENT, () -> desk.setStreet(2, -1, false));
    }

    private static void setStreetCamera() {
        Due.promise(3, "hasCamera: whether it has a camera from now on");
        LanternDesk desk = new LanternDesk();
        desk.setStreet(0, 1, true);
        desk.ask(0, 4);
        desk.pass(1);
        Scenes.counts(desk, 1, 1);
        desk.setStreet(0, 1, false);
        Scenes.counts(desk, 1, 1);
        Scenes.shows(desk, 0, 0, 0, true);
        desk.setStreet(1, 1, true);
        desk.setStreet(1, 1, true);
        desk.setStreet(2, 1, true);
        desk.setStreet(2, 1, false);
        desk.pass(2);
        Scenes.shows(desk, 1, 0, 0, true);
        Scenes.shows(desk, 2, 0, 0, false);
        desk.setStreet(2, 1, true);
        desk.pass(2);
        Scenes.shows(desk, 2, 0, 0, false);
        Scenes.counts(desk, 2, 2);
        desk.ask(0, 1);
        desk.pass(1);
        Scenes.shows(desk, 0, 1, 0, false);
    }

    private static void setStreetReturns() {
        Due.promise(3, "Returns the price before");
        LanternDesk desk = new LanternDesk();
        Due.is("setStreet(7, 50, true)", desk.setStreet(7, 50, true), 1);
        Due.is("setStreet(7, 0, true)", desk.setStreet(7, 0, true), 50);
        Due.is("setStreet(7, 3, true)", desk.setStreet(7, 3, true), 0);
        Due.is("setStreet(7, 3, false), the same", desk.setStreet(7, 3, false), 3);
        Due.is("setStreet(7, 4, false)", desk.setStreet(7, 4, false), 3);
        Due.is("setStreet(6, 4, false), another street", desk.setStreet(6, 4, false), 1);
        Due.is("setStreet(0, 4, false), another street", desk.setStreet(0, 4, false), 1);
    }

    private static void setStreetNoStreet() {
        Due.promise(3, "Throws IndexOutOfBoundsException if there is no such street");
        LanternDesk desk = new LanternDesk();
        for (int street : Outside.STREETS) {
            Due.isThrown("setStreet(" + street + ", 0, true)", Due.INDEX, () -> desk.setStreet(street, 0, true));
            Due.isThrown("setStreet(" + street + ", 50, false)", Due.INDEX, () -> desk.setStreet(street, 50, false));
        }
        for (int street = 0; street < 8; street++) {
            Due.is("setStreet(" + street + ", 2, false)", desk.setStreet(street, 2, false), 1);
        }
    }

    private static void setStreetOutOfRange() {
        Due.promise(3, "Throws IllegalArgumentException if price is out of range");
        LanternDesk desk = new LanternDesk();
        desk.pay(0, 2);
        for (int price : Outside.of(0, 50)) {
            Due.isThrown("setStreet(0, " + price + ", true)", Due.ARGUMENT, () -> desk.setStreet(0, price, true));
        }
        desk.ask(0, 1);
        desk.pass(1);
        Due.is("purse(0), the price is still 1", desk.purse(0), 1);
        Due.is("taken(), there is still no camera", desk.taken(), 0);
        Due.is("setStreet(0, 2, true)", desk.setStreet(0, 2, true), 1);
    }

    private static void vote() {
        Due.promise(4, "Lets a voter vote");
        for (int street = 0; street < 8; street++) {
            for (int voter = 0; voter < 3; voter++) {
                LanternDesk desk = new LanternDesk();
                desk.vote(street, voter, 20);
                int other = (voter + 1) % 3;
                Due.is("voters " + voter + " and " + other, desk.vote(street, other, 10), 10);
                Due.is("voter " + voter + " again", desk.vote(street, voter, 5), 7);
                Due.is("the next street", desk.vote((street + 1) % 8, voter, 30), 7);
            }
        }
    }

    private static void voteDays() {
        Due.promise(4, "days: 1 to 30");
        LanternDesk desk = new LanternDesk();
        for (int days = 1; days <= 30; days++) {
            desk.vote(4, 0, days);
            Due.is("two votes for " + days, desk.vote(4, 1, days), days);
            Due.is("three votes for " + days, desk.vote(4, 2, days), days);
        }
        Due.isThrown("vote(4, 0, 0)", Due.ARGUMENT, () -> desk.vote(4, 0, 0));
        Due.isThrown("vote(4, 0, 31)", Due.ARGUMENT, () -> desk.vote(4, 0, 31));
    }

    private static void voteReturns() {
        Due.promise(4, "Returns for how many days the street keeps pictures then");
        int[] days = {1, 2, 7, 29, 30};
        for (int first : days) {
            for (int second : days) {
                for (int third : days) {
                    LanternDesk desk = new LanternDesk();
                    String told = first + ", " + second + " and " + third;
                    Due.is("a vote for " + first, desk.vote(5, 0, first), 7);
                    Due.is("votes for " + first + " and " + second, desk.vote(5, 1, second), middle(first, second, 7));
                    Due.is("votes for " + told, desk.vote(5, 2, third), middle(first, second, third));
                    Due.is("the same vote again", desk.vote(5, 2, third), middle(first, second, third));
                }
            }
        }
    }

    private static int middle(int first, int second, int third) {
        int[] sorted = {first, second, third};
        Arrays.sort(sorted);
        return sorted[1];
    }

    private static void voteNoStreetOrVoter() {
        Due.promise(4, "Throws IndexOutOfBoundsException if there is no such street or voter");
        LanternDesk desk = new LanternDesk();
        for (int street : Outside.STREETS) {
            Due.isThrown("vote(" + street + ", 0, 1)", Due.INDEX, () -> desk.vote(street, 0, 1));
            Due.isThrown("vote(" + street + ", 2, 30)", Due.INDEX, () -> desk.vote(street, 2, 30));
            Due.isThrown("vote(" + street + ", 3, 30)", Due.INDEX, () -> desk.vote(street, 3, 30));
        }
        for (int voter : Outside.VOTERS) {
            Due.isThrown("vote(0, " + voter + ", 1)", Due.INDEX, () -> desk.vote(0, voter, 1));
            Due.isThrown("vote(7, " + voter + ", 30)", Due.INDEX, () -> desk.vote(7, voter, 30));
        }
        Due.is("vote(0, 2, 30)", desk.vote(0, 2, 30), 7);
        Due.is("vote(7, 0, 1)", desk.vote(7, 0, 1), 7);
        Due.is("vote(1, 0, 1)", desk.vote(1, 0, 1), 7);
    }

    private static void voteOutOfRange() {
        Due.promise(4, "Throws IllegalArgumentException if days is out of range");
        LanternDesk desk = new LanternDesk();
        for (int days : Outside.of(1, 30)) {
            for (int voter = 0; voter < 3; voter++) {
                int voting = voter;
                Due.isThrown("vote(0, " + voter + ", " + days + ")", Due.ARGUMENT, () -> desk.vote(0, voting, days));
            }
        }
        Due.is("vote(0, 0, 30), the others are still for 7", desk.vote(0, 0, 30), 7);
        Due.is("vote(0, 0, 1)", desk.vote(0, 0, 1), 7);
    }
}
