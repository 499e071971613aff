import java.util.ArrayList;
import java.util.List;

/** A call that throws, and a call that only asks, changes nothing: neither what is told at once nor what is told later. */
public final class NothingChangesTest {
    private static final int[] NUMBERS = {
        -1, 0, 1, 2, 3, 4, 7, 8, 31, 51, 60, 61, 10001, Integer.MIN_VALUE, Integer.MAX_VALUE
    };
    private static final int MOST_LOOKED_AT = 8;

    private NothingChangesTest() {
    }

    private interface DeskCall {
        Object on(LanternDesk desk);
    }

    private interface Maker {
        LanternDesk make();
    }

    public static void main(String[] args) {
        Due.term("A call that throws an exception changes nothing");
        int refused = 0;
        for (int first : NUMBERS) {
            for (int second : NUMBERS) {
                String numbers = " with " + first + " and " + second;
                refused += changeNothing(NothingChangesTest::busyDesk, calls(first, second), numbers);
                refused += changeNothing(NothingChangesTest::lateDesk, calls(first, second), numbers + " late");
            }
        }
        refused += changeNothing(NothingChangesTest::fullDesk, calls(0, 1), " of 60 walks");
        refused += changeNothing(NothingChangesTest::fullDesk, calls(1, 1), " of 60 walks");
        Due.is("many calls were refused", refused > 4000, true);
        Due.term("nothing from here on changes anything");
        for (int number = 0; number < 8; number++) {
            asksChangeNothing(number);
        }
        Due.end();
    }

    /** Walks wait, are under way and over, one of them was praised; a purse is full; pictures are due in the next night. */
    private static LanternDesk busyDesk() {
        LanternDesk desk = new LanternDesk();
        for (int street = 0; street < 8; street++) {
            desk.setStreet(street, 2, street != 6);
            desk.pay(street, 5);
            desk.vote(street, 0, 2);
            desk.vote(street, 1, 3);
        }
        desk.ask(0, 1);
        desk.ask(0, 2);
        desk.pass(3);
        desk.complain(0, true);
        desk.night();
        desk.night();
        for (int i = 0; i < 10; i++) {
            desk.pay(7, 9999);
        }
        for (int i = 0; i < 5; i++) {
            desk.ask(i, i + 2);
        }
        desk.pass(2);
        return desk;
    }

    /** Ten minutes are left of the night, in which walks are under way. */
    private static LanternDesk lateDesk() {
        LanternDesk desk = Scenes.atMinute(988);
        desk.setStreet(1, 3, true);
        desk.pay(1, 4);
        for (int i = 0; i < 6; i++) {
            desk.ask(1, 4);
        }
        desk.pass(2);
        return desk;
    }

    private static LanternDesk fullDesk() {
        LanternDesk desk = new LanternDesk();
        for (int i = 0; i < 60; i++) {
            desk.ask(i % 8, (i + 3) % 8);
        }
        desk.pass(3);
        return desk;
    }

    private static List<DeskCall> calls(int first, int second) {
        List<DeskCall> calls = new ArrayList<>();
        calls.add(desk -> desk.pay(first, second));
        calls.add(desk -> desk.pay(7, 10000));
        calls.add(desk -> desk.setStreet(first, second, false));
        calls.add(desk -> desk.setStreet(second, first, true));
        calls.add(desk -> desk.vote(first, second, 1));
        calls.add(desk -> desk.vote(first, 1, second));
        calls.add(desk -> desk.vote(0, first, second));
        calls.add(desk -> desk.place(first, second));
        calls.add(desk -> desk.ask(first, second));
        calls.add(desk -> desk.pass(first));
        calls.add(desk -> desk.night());
        calls.add(desk -> desk.complain(first, second > 0));
        calls.add(desk -> desk.purse(first));
        calls.add(desk -> desk.state(first));
        calls.add(desk -> desk.escortOf(first));
        calls.add(desk -> desk.dark(first));
        calls.add(desk -> desk.streetOf(first));
        calls.add(desk -> desk.rank(first));
        calls.add(desk -> desk.way(first, second));
        calls.add(desk -> desk.shows(first, second, 0));
        calls.add(desk -> desk.showsByPapers(first, second, 0));
        return calls;
    }

    /** Makes each call on a desk of its own; those that throw leave it as one that was never called. Returns how many do. */
    private static int changeNothing(Maker maker, List<DeskCall> calls, String told) {
        int refused = 0;
        String[] want = {rest(maker.make(), 0), rest(maker.make(), 2)};
        for (int i = 0; i < calls.size(); i++) {
            DeskCall call = calls.get(i);
            for (int variant = 0; variant < want.length; variant++) {
                LanternDesk desk = maker.make();
                String outcome = Due.outcome(() -> call.on(desk)).toString();
                if (outcome.startsWith("throws.")) {
                    refused++;
                    Due.is("the rest behind call " + i + told, rest(desk, 2 * variant), want[variant]);
                }
            }
        }
        return refused;
    }

    private static void asksChangeNothing(int number) {
        List<DeskCall> asks = new ArrayList<>();
        asks.add(desk -> desk.day());
        asks.add(desk -> desk.minute());
        asks.add(desk -> desk.purse(number));
        asks.add(desk -> desk.walks());
        asks.add(desk -> desk.state(number % 7));
        asks.add(desk -> desk.escortOf(number % 7));
        asks.add(desk -> desk.dark(number % 7));
        asks.add(desk -> desk.streetOf(number % 4));
        asks.add(desk -> desk.rank(number % 4));
        asks.add(desk -> desk.way(number, 3));
        asks.add(desk -> desk.pictures());
        asks.add(desk -> desk.shows(number, number % 7, number % 3));
        asks.add(desk -> desk.showsByPapers(number, number % 7, number % 3));
        asks.add(desk -> desk.taken());
        String want = rest(busyDesk(), 0);
        for (int i = 0; i < asks.size(); i++) {
            LanternDesk desk = busyDesk();
            Object first = asks.get(i).on(desk);
            Due.is("question " + i + " asked again", asks.get(i).on(desk), first);
            Due.is("the rest behind question " + i, rest(desk, 0), want);
        }
    }

    /** What a desk tells from here on. The two votes beside the probing voter's show in what its new votes make of them. */
    private static String rest(LanternDesk desk, int probing) {
        StringBuilder text = new StringBuilder();
        lookAtAll(desk, text);
        tell(text, () -> desk.pass(10));
        lookAtAll(desk, text);
        for (int walk = 0; walk < Math.min(MOST_LOOKED_AT, desk.walks()); walk++) {
            int judged = walk;
            tell(text, () -> desk.complain(judged, true));
        }
        tell(text, () -> desk.night());
        tell(text, () -> desk.ask(0, 4));
        tell(text, () -> desk.ask(4, 0));
        tell(text, () -> desk.pass(30));
        lookAtAll(desk, text);
        for (int street = 0; street < 8; street++) {
            int asked = street;
            tell(text, () -> desk.setStreet(asked, 3, true));
            tell(text, () -> desk.vote(asked, probing, 1));
            tell(text, () -> desk.vote(asked, probing, 30));
        }
        for (int night = 0; night < 8; night++) {
            tell(text, () -> desk.night());
            tell(text, () -> desk.pictures());
        }
        return text.toString();
    }

    private static void tell(StringBuilder text, Due.Call call) {
        text.append(Due.outcome(call)).append(' ');
    }

    private static void lookAtAll(LanternDesk desk, StringBuilder text) {
        text.append("\nday ").append(desk.day()).append(" minute ").append(desk.minute());
        text.append(" pictures ").append(desk.pictures()).append(" taken ").append(desk.taken());
        for (int street = 0; street < 8; street++) {
            text.append(" purse ").append(desk.purse(street));
        }
        for (int escort = 0; escort < 4; escort++) {
            text.append(" escort ").append(desk.streetOf(escort)).append('/').append(desk.rank(escort));
        }
        text.append(" walks ").append(desk.walks());
        for (int walk = 0; walk < Math.min(MOST_LOOKED_AT, desk.walks()); walk++) {
            text.append(' ').append(desk.state(walk)).append('/').append(desk.escortOf(walk));
            text.append('/').append(desk.dark(walk)).append('/').append(desk.shows(walk, walk, desk.day()));
        }
        text.append('\n');
    }
}
