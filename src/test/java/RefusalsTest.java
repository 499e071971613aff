import java.util.ArrayList;
import java.util.List;

/** What "Terms" says of exceptions, but for what they leave as it was (NothingChangesTest). */
public final class RefusalsTest {
    private static final int[] NO_WALKS_OF_TWO = Outside.of(0, 1);

    public static void main(String[] args) {
        noSuchOne();
        firstOfTheThrowsClause();
        Due.end();
    }

    private interface DeskCall {
        Object on(LanternDesk desk);
    }

    private static LanternDesk withTwoWalks() {
        LanternDesk desk = new LanternDesk();
        desk.ask(0, 1);
        desk.ask(0, 1);
        desk.pass(1);
        return desk;
    }

    private static void noSuchOne() {
        Due.term("A method that takes a street, a voter, an escort or a walk throws IndexOutOfBoundsException"
                + " if there is no such one");
        for (int street : Outside.STREETS) {
            areIndexes("street " + street, callsWithStreet(street));
        }
        for (int voter : Outside.VOTERS) {
            areIndexes("voter " + voter, List.of(desk -> desk.vote(0, voter, 1), desk -> desk.vote(7, voter, 30)));
        }
        for (int escort : Outside.ESCORTS) {
            areIndexes("escort " + escort, List.of(desk -> desk.place(escort, 0), desk -> desk.place(escort, 7),
                    desk -> desk.streetOf(escort), desk -> desk.rank(escort)));
        }
        for (int walk : NO_WALKS_OF_TWO) {
            areIndexes("walk " + walk, List.of(desk -> desk.complain(walk, true), desk -> desk.complain(walk, false),
                    desk -> desk.state(walk), desk -> desk.escortOf(walk), desk -> desk.dark(walk),
                    desk -> desk.shows(0, walk, 0), desk -> desk.showsByPapers(0, walk, 0)));
        }
        noWalkYet();
    }

    private static List<DeskCall> callsWithStreet(int street) {
        List<DeskCall> calls = new ArrayList<>();
        calls.add(desk -> desk.pay(street, 1));
        calls.add(desk -> desk.setStreet(street, 1, true));
        calls.add(desk -> desk.vote(street, 0, 1));
        calls.add(desk -> desk.place(3, street));
        calls.add(desk -> desk.ask(street, 0));
        calls.add(desk -> desk.ask(0, street));
        calls.add(desk -> desk.purse(street));
        calls.add(desk -> desk.way(street, 0));
        calls.add(desk -> desk.way(0, street));
        calls.add(desk -> desk.way(street, street));
        calls.add(desk -> desk.shows(street, 0, 0));
        calls.add(desk -> desk.showsByPapers(street, 0, 0));
        calls.add(desk -> desk.shows(street, 2, 0));
        calls.add(desk -> desk.showsByPapers(street, 2, 0));
        return calls;
    }

    private static void areIndexes(String what, List<DeskCall> calls) {
        LanternDesk desk = withTwoWalks();
        for (int i = 0; i < calls.size(); i++) {
            DeskCall call = calls.get(i);
            Due.isThrown("call " + (i + 1) + " with " + what, Due.INDEX, () -> call.on(desk));
        }
    }

    private static void noWalkYet() {
        LanternDesk desk = new LanternDesk();
        for (int walk : new int[] {0, 1, 59, 60}) {
            Due.isThrown("state(" + walk + ")", Due.INDEX, () -> desk.state(walk));
            Due.isThrown("escortOf(" + walk + ")", Due.INDEX, () -> desk.escortOf(walk));
            Due.isThrown("dark(" + walk + ")", Due.INDEX, () -> desk.dark(walk));
            Due.isThrown("complain(" + walk + ", true)", Due.INDEX, () -> desk.complain(walk, true));
            Due.isThrown("shows(0, " + walk + ", 0)", Due.INDEX, () -> desk.shows(0, walk, 0));
            Due.isThrown("showsByPapers(0, " + walk + ", 0)", Due.INDEX, () -> desk.showsByPapers(0, walk, 0));
        }
    }

    private static void firstOfTheThrowsClause() {
        Due.term("If several exceptions apply, the one that is named first in the throws clause is thrown");
        payAndSetStreet();
        voteAndPlace();
        askWithSixty();
        passAtTheEnd();
    }

    private static void payAndSetStreet() {
        LanternDesk desk = new LanternDesk();
        for (int i = 0; i < 10; i++) {
            desk.pay(0, 10000);
        }
        for (int coins : Outside.of(1, 10000)) {
            Due.isThrown("pay(0, " + coins + ") into a full purse", Due.ARGUMENT, () -> desk.pay(0, coins));
            Due.isThrown("pay(8, " + coins + ")", Due.INDEX, () -> desk.pay(8, coins));
            Due.isThrown("pay(-1, " + coins + ")", Due.INDEX, () -> desk.pay(-1, coins));
        }
        for (int price : Outside.of(0, 50)) {
            Due.isThrown("setStreet(8, " + price + ", true)", Due.INDEX, () -> desk.setStreet(8, price, true));
            Due.isThrown("setStreet(-1, " + price + ", false)", Due.INDEX, () -> desk.setStreet(-1, price, false));
        }
    }

    private static void voteAndPlace() {
        LanternDesk desk = new LanternDesk();
        for (int days : Outside.of(1, 30)) {
            Due.isThrown("vote(8, 0, " + days + ")", Due.INDEX, () -> desk.vote(8, 0, days));
            Due.isThrown("vote(0, 3, " + days + ")", Due.INDEX, () -> desk.vote(0, 3, days));
            Due.isThrown("vote(-1, -1, " + days + ")", Due.INDEX, () -> desk.vote(-1, -1, days));
        }
        desk.ask(0, 4);
        desk.pass(1);
        for (int street : Outside.STREETS) {
            Due.isThrown("place(0, " + street + ") with a walker", Due.INDEX, () -> desk.place(0, street));
        }
        Due.isThrown("place(0, 0) with a walker", Due.STATE, () -> desk.place(0, 0));
    }

    private static void askWithSixty() {
        LanternDesk desk = new LanternDesk();
        for (int street : Outside.STREETS) {
            Due.isThrown("ask(" + street + ", " + street + ")", Due.INDEX, () -> desk.ask(street, street));
        }
        for (int i = 0; i < 60; i++) {
            desk.ask(0, 1);
        }
        for (int street : Outside.STREETS) {
            Due.isThrown("ask(" + street + ", 0), 60 asked for", Due.INDEX, () -> desk.ask(street, 0));
            Due.isThrown("ask(0, " + street + "), 60 asked for", Due.INDEX, () -> desk.ask(0, street));
            Due.isThrown("ask(" + street + ", " + street + ")", Due.INDEX, () -> desk.ask(street, street));
        }
        for (int street = 0; street < 8; street++) {
            int same = street;
            Due.isThrown("ask(" + same + ", " + same + "), 60 asked for", Due.ARGUMENT, () -> desk.ask(same, same));
        }
        Due.isThrown("ask(1, 0), 60 asked for", Due.STATE, () -> desk.ask(1, 0));
    }

    private static void passAtTheEnd() {
        for (int minute : new int[] {940, 941, 999, 1000}) {
            LanternDesk desk = Scenes.atMinute(minute);
            for (int minutes : Outside.of(1, 60)) {
                Due.isThrown("pass(" + minutes + ") at " + minute, Due.ARGUMENT, () -> desk.pass(minutes));
            }
            Due.is("minute()", desk.minute(), minute);
        }
    }
}
