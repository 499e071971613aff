import java.util.ArrayList;
import java.util.List;

/** A call that throws, and a call that only asks, changes nothing. */
public final class NothingChangesTest {
    private static final int[] WRONG = {-1, 0, 1, 3, 4, 8, 31, 51, 60, 61, 10001, Integer.MIN_VALUE, Integer.MAX_VALUE};

    private NothingChangesTest() {
    }

    private interface DeskCall {
        Object on(LanternDesk desk);
    }

    public static void main(String[] args) {
        String want = rest(busyDesk());
        int tried = 0;
        for (int first : WRONG) {
            for (int second : WRONG) {
                LanternDesk desk = busyDesk();
                for (DeskCall call : calls(first, second)) {
                    if (isThrowing(call)) {
                        tried++;
                        Due.outcome(() -> call.on(desk));
                    }
                }
                String numbers = first + " and " + second;
                Due.is("what is told behind calls of " + numbers, Snapshot.of(desk), Snapshot.of(busyDesk()));
                Due.is("the rest of a run behind calls of " + numbers, rest(desk), want);
            }
        }
        Due.is("most of the calls throw", tried > 1000, true);
        askingChangesNothing();
        Due.end();
    }

    /** A desk where walks wait, are under way and over, one of them complained of. */
    private static LanternDesk busyDesk() {
        LanternDesk desk = new LanternDesk();
        for (int street = 0; street < 8; street++) {
            desk.setStreet(street, 2, true);
            desk.pay(street, 5);
            desk.vote(street, 0, 2);
            desk.vote(street, 1, 4);
        }
        for (int i = 0; i < 10; i++) {
            desk.pay(0, 9990);
        }
        desk.ask(0, 1);
        desk.pass(2);
        desk.complain(0, true);
        desk.night();
        for (int i = 0; i < 5; i++) {
            desk.ask(i, i + 2);
        }
        desk.pass(2);
        return desk;
    }

    private static List<DeskCall> calls(int first, int second) {
        List<DeskCall> calls = new ArrayList<>();
        calls.add(desk -> desk.pay(first, second));
        calls.add(desk -> desk.pay(0, 10000));
        calls.add(desk -> desk.setStreet(first, second, false));
        calls.add(desk -> desk.vote(first, second, 1));
        calls.add(desk -> desk.vote(first, 1, second));
        calls.add(desk -> desk.vote(0, first, second));
        calls.add(desk -> desk.place(first, second));
        calls.add(desk -> desk.ask(first, second));
        calls.add(desk -> desk.pass(first));
        calls.add(desk -> desk.night());
        calls.add(desk -> desk.complain(first, second > 0));
        calls.add(desk -> desk.shows(first, second, 0));
        calls.add(desk -> desk.showsByPapers(first, second, 0));
        calls.add(desk -> desk.way(first, second));
        return calls;
    }

    private static boolean isThrowing(DeskCall call) {
        LanternDesk other = busyDesk();
        return Due.outcome(() -> call.on(other)).toString().startsWith("throws.");
    }

    /** What a desk answers from here on, so that what is not told at once shows too. */
    private static String rest(LanternDesk desk) {
        StringBuilder text = new StringBuilder();
        for (int walk = 0; walk < desk.walks(); walk++) {
            int judged = walk;
            text.append(Due.outcome(() -> desk.complain(judged, true))).append(' ');
        }
        for (int i = 0; i < 3; i++) {
            text.append(desk.pass(10)).append(' ').append(Snapshot.of(desk)).append('\n');
        }
        for (int street = 0; street < 8; street++) {
            text.append(desk.setStreet(street, 3, true)).append(' ').append(desk.vote(street, 2, 3)).append(' ');
        }
        for (int i = 0; i < 8; i++) {
            text.append(desk.ask(i, (i + 3) % 8)).append(' ').append(desk.pass(20)).append(' ');
            text.append(desk.night()).append(' ').append(Snapshot.of(desk)).append('\n');
        }
        return text.toString();
    }

    private static void askingChangesNothing() {
        LanternDesk asked = busyDesk();
        Due.is("a second look", Snapshot.of(asked), Snapshot.of(asked));
        for (int from = 0; from < 8; from++) {
            asked.way(from, 3);
        }
        Due.is("the rest behind looks", rest(asked), rest(busyDesk()));
    }
}
