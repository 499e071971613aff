/** What "Terms" says of streets, ways, purses, votes, escorts and walks, each sentence by itself. */
public final class TermsTest {
    private static final int[] OPPOSITE = {4, 5, 6, 7, 0, 1, 2, 3};

    public static void main(String[] args) {
        atMost512Calls();
        ring();
        shorterSide();
        bothSidesAsLong();
        firstDayAndMinute();
        purses();
        prices();
        noCameraAtFirst();
        voters();
        middleVote();
        escortNumbers();
        firstStreetsAndRanks();
        walkNumbers();
        sixtyWalks();
        notToTheSameStreet();
        waitsAtFirst();
        escortComes();
        bothGoToTheEnd();
        freeEscorts();
        Due.end();
    }

    /** From "What it is": the last call that is promised still answers right. */
    private static void atMost512Calls() {
        LanternDesk paid = new LanternDesk();
        for (int call = 1; call <= 512; call++) {
            Due.is("pay(7, 195), call " + call, paid.pay(7, 195), 195 * call);
        }
        LanternDesk slept = new LanternDesk();
        Scenes.nights(slept, 511);
        Due.is("day(), call 512", slept.day(), 511);
    }

    private static void ring() {
        Due.term("Streets are 0 to 7, in a ring: the next ones of a street are the one with the number 1 more"
                + " and the one with 1 less, 7 and 0 being next to one another");
        LanternDesk desk = new LanternDesk();
        for (int street = 0; street < 8; street++) {
            int up = street == 7 ? 0 : street + 1;
            Due.is("way(" + street + ", " + up + ")", desk.way(street, up), 1);
            Due.is("way(" + up + ", " + street + ")", desk.way(up, street), 1);
            Due.is("purse(" + street + ")", desk.purse(street), 0);
        }
        Due.isThrown("purse(-1)", Due.INDEX, () -> desk.purse(-1));
        Due.isThrown("purse(8)", Due.INDEX, () -> desk.purse(8));
        desk.place(0, 7);
        desk.ask(7, 0);
        Scenes.goesBy(desk, 0, 7, 0);
        desk.ask(0, 7);
        Scenes.goesBy(desk, 0, 0, 7);
        Scenes.escorts(desk, 0, 0);
        Scenes.states(desk, 3, 3);
    }

    /** Each two streets that are not opposite, by escorts who come and by those who go with a walker. */
    private static void shorterSide() {
        Due.term("The way from one street to another goes by the side on which it is shorter");
        for (int from = 0; from < 8; from++) {
            for (int steps = 1; steps <= 3; steps++) {
                goesTheWay(from, (from + steps) % 8, steps, 1);
                goesTheWay(from, (from + 8 - steps) % 8, steps, 7);
            }
        }
    }

    private static void bothSidesAsLong() {
        Due.term("if both are as long, by rising numbers");
        for (int from = 0; from < 8; from++) {
            goesTheWay(from, OPPOSITE[from], 4, 1);
        }
        LanternDesk desk = new LanternDesk();
        Scenes.placeAll(desk, 6);
        desk.ask(6, 2);
        Scenes.goesBy(desk, 0, 6, 7, 0, 1, 2);
        Scenes.placeAll(desk, 5);
        desk.ask(1, 2);
        Scenes.goesBy(desk, 0, 6, 7, 0, 1, 2);
    }

    /** Adding the step to a street gives the next one of it, once the ring is counted round. */
    private static void goesTheWay(int from, int to, int length, int step) {
        LanternDesk desk = new LanternDesk();
        Due.is("way(" + from + ", " + to + ")", desk.way(from, to), length);
        Scenes.placeAll(desk, from);
        desk.ask(from, to);
        Scenes.goesBy(desk, 0, from);
        for (int gone = 1; gone <= length; gone++) {
            Scenes.goesBy(desk, 0, (from + gone * step) % 8);
        }
        Scenes.states(desk, 3);
        LanternDesk called = new LanternDesk();
        Scenes.placeAll(called, from);
        called.ask(to, from);
        for (int gone = 1; gone <= length; gone++) {
            Scenes.states(called, gone == 1 ? 0 : 1);
            Scenes.goesBy(called, 0, (from + gone * step) % 8);
        }
        Scenes.states(called, 2);
    }

    private static void firstDayAndMinute() {
        Due.term("Days and minutes of now are 0 at first");
        LanternDesk desk = new LanternDesk();
        Due.is("day()", desk.day(), 0);
        Due.is("minute()", desk.minute(), 0);
    }

    private static void purses() {
        Due.term("A street has a purse, 0 to 100000, at first 0");
        LanternDesk desk = new LanternDesk();
        for (int street = 0; street < 8; street++) {
            Due.is("purse(" + street + ")", desk.purse(street), 0);
            for (int paid = 1; paid <= 10; paid++) {
                desk.pay(street, 10000);
            }
            Due.is("purse(" + street + ") when it is full", desk.purse(street), 100000);
            int full = street;
            Due.isThrown("pay(" + street + ", 1)", Due.STATE, () -> desk.pay(full, 1));
        }
        LanternDesk poor = new LanternDesk();
        poor.pay(0, 1);
        poor.ask(0, 1);
        poor.pass(1);
        Due.is("purse(0) when its last coin is paid", poor.purse(0), 0);
        poor.ask(0, 1);
        poor.pass(1);
        Due.is("purse(0), never below 0", poor.purse(0), 0);
    }

    private static void prices() {
        Due.term("a price, 0 to 50 coins for a minute of light, at first 1");
        LanternDesk desk = new LanternDesk();
        for (int street = 0; street < 8; street++) {
            Due.is("setStreet(" + street + ", 50, false)", desk.setStreet(street, 50, false), 1);
            Due.is("setStreet(" + street + ", 0, false)", desk.setStreet(street, 0, false), 50);
            Due.is("setStreet(" + street + ", 0, false)", desk.setStreet(street, 0, false), 0);
        }
        Due.is("purse(0) at the first price", purseBehindAMinute(new LanternDesk()), 99);
        LanternDesk dear = new LanternDesk();
        dear.setStreet(0, 50, false);
        Due.is("purse(0) at the highest price", purseBehindAMinute(dear), 50);
        LanternDesk free = new LanternDesk();
        free.setStreet(0, 0, false);
        Due.is("purse(0) at no price", purseBehindAMinute(free), 100);
    }

    private static int purseBehindAMinute(LanternDesk desk) {
        desk.pay(0, 100);
        desk.ask(0, 4);
        desk.pass(1);
        return desk.purse(0);
    }

    private static void noCameraAtFirst() {
        Due.term("a camera, at first none");
        LanternDesk desk = new LanternDesk();
        desk.ask(0, 4);
        desk.ask(4, 0);
        desk.pass(20);
        Scenes.states(desk, 3, 3);
        Scenes.counts(desk, 0, 0);
        for (int street = 0; street < 8; street++) {
            Scenes.shows(desk, street, 0, 0, false);
            Scenes.shows(desk, street, 1, 0, false);
        }
    }

    private static void voters() {
        Due.term("and three voters, 0 to 2, each of whom has voted for a number of days, 1 to 30, at first 7");
        LanternDesk desk = new LanternDesk();
        for (int street = 0; street < 8; street++) {
            Due.is("one of three for 30", desk.vote(street, 0, 30), 7);
            Due.is("two of three for 30", desk.vote(street, 1, 30), 30);
            Due.is("one of three back to 1", desk.vote(street, 0, 1), 7);
            Due.is("two of three for 1", desk.vote(street, 2, 1), 1);
            Due.is("all for 1", desk.vote(street, 1, 1), 1);
        }
        Due.isThrown("vote(0, -1, 7)", Due.INDEX, () -> desk.vote(0, -1, 7));
        Due.isThrown("vote(0, 3, 7)", Due.INDEX, () -> desk.vote(0, 3, 7));
        Due.isThrown("vote(0, 0, 0)", Due.ARGUMENT, () -> desk.vote(0, 0, 0));
        Due.isThrown("vote(0, 0, 31)", Due.ARGUMENT, () -> desk.vote(0, 0, 31));
        for (int first = 0; first < 3; first++) {
            LanternDesk fresh = new LanternDesk();
            Due.is("voter " + first + " for 2", fresh.vote(3, first, 2), 7);
            Due.is("the next one for 3", fresh.vote(3, (first + 1) % 3, 3), 3);
            Due.is("the last one for 30", fresh.vote(3, (first + 2) % 3, 30), 3);
            Due.is("the other streets", fresh.vote(4, first, 30), 7);
        }
    }

    /** Votes in each order, and as many of them alike; the pictures of a street are erased as the middle one says. */
    private static void middleVote() {
        Due.term("It keeps pictures for as many days as the middle one of these three numbers tells");
        int[][] votes = {
            {1, 2, 3}, {1, 3, 2}, {2, 1, 3}, {2, 3, 1}, {3, 1, 2}, {3, 2, 1},
            {2, 2, 5}, {2, 5, 2}, {5, 2, 2}, {1, 2, 2}, {2, 1, 2}, {2, 2, 1}, {2, 2, 2}, {1, 2, 30}, {30, 2, 1}
        };
        for (int[] row : votes) {
            LanternDesk desk = new LanternDesk();
            desk.setStreet(0, 1, true);
            for (int voter = 0; voter < 3; voter++) {
                desk.vote(0, voter, row[voter]);
            }
            Scenes.walkWith(desk, 0);
            String told = "night() with the votes " + row[0] + ", " + row[1] + ", " + row[2];
            Due.is(told, desk.night(), 0);
            Scenes.counts(desk, 1, 1);
            Due.is(told + " again", desk.night(), 1);
            Scenes.counts(desk, 0, 1);
        }
    }

    private static void escortNumbers() {
        Due.term("Escorts are 0 to 3");
        LanternDesk desk = new LanternDesk();
        for (int i = 0; i < 5; i++) {
            desk.ask(0, 1);
        }
        desk.pass(1);
        Scenes.escorts(desk, 0, 1, 2, 3, -1);
        Due.isThrown("rank(-1)", Due.INDEX, () -> desk.rank(-1));
        Due.isThrown("rank(4)", Due.INDEX, () -> desk.rank(4));
        Due.isThrown("streetOf(-1)", Due.INDEX, () -> desk.streetOf(-1));
        Due.isThrown("streetOf(4)", Due.INDEX, () -> desk.streetOf(4));
    }

    private static void firstStreetsAndRanks() {
        Due.term("each is at a street, at first all at 0, and has a rank, 0 to 100, at first 50");
        LanternDesk desk = new LanternDesk();
        for (int escort = 0; escort < 4; escort++) {
            Due.is("streetOf(" + escort + ")", desk.streetOf(escort), 0);
            Due.is("rank(" + escort + ")", desk.rank(escort), 50);
        }
        for (int escort = 0; escort < 4; escort++) {
            LanternDesk judged = new LanternDesk();
            for (int i = 1; i <= 11; i++) {
                Due.is("praise", judged.complain(Scenes.walkWith(judged, escort), true), Math.min(100, 50 + 5 * i));
            }
            for (int i = 1; i <= 11; i++) {
                Due.is("complaint", judged.complain(Scenes.walkWith(judged, escort), false), Math.max(0, 100 - 10 * i));
            }
            Due.is("rank(" + escort + ")", judged.rank(escort), 0);
        }
    }

    private static void walkNumbers() {
        Due.term("Walks are numbered from 0 on");
        LanternDesk desk = new LanternDesk();
        Due.isThrown("state(0) of a new object", Due.INDEX, () -> desk.state(0));
        Due.is("the first", desk.ask(5, 6), 0);
        Due.is("the second, of the same streets", desk.ask(5, 6), 1);
        desk.pass(60);
        desk.night();
        Due.is("the third, behind a night", desk.ask(6, 5), 2);
        Due.isThrown("state(-1)", Due.INDEX, () -> desk.state(-1));
        Scenes.states(desk, 3, 3, 0);
        Due.isThrown("state(3)", Due.INDEX, () -> desk.state(3));
    }

    private static void sixtyWalks() {
        Due.term("at most 60 are asked for");
        LanternDesk desk = new LanternDesk();
        for (int i = 0; i < 60; i++) {
            Due.is("ask(2, 3)", desk.ask(2, 3), i);
        }
        Due.isThrown("ask(2, 3) the 61st time", Due.STATE, () -> desk.ask(2, 3));
        Due.is("walks()", desk.walks(), 60);
        Due.is("state(59)", desk.state(59), 0);
        Due.isThrown("state(60)", Due.INDEX, () -> desk.state(60));
    }

    private static void notToTheSameStreet() {
        Due.term("A walk goes from one street to another one");
        LanternDesk desk = new LanternDesk();
        for (int street = 0; street < 8; street++) {
            int same = street;
            Due.isThrown("ask(" + same + ", " + same + ")", Due.ARGUMENT, () -> desk.ask(same, same));
        }
        Due.is("walks()", desk.walks(), 0);
        Due.is("ask(0, 1)", desk.ask(0, 1), 0);
    }

    private static void waitsAtFirst() {
        Due.term("It waits at first");
        LanternDesk desk = new LanternDesk();
        desk.ask(0, 1);
        Scenes.states(desk, 0);
        Scenes.escorts(desk, -1);
        Due.is("dark(0)", desk.dark(0), 0);
        Due.is("place(0, 0), who has no walk yet", desk.place(0, 0), 0);
    }

    private static void escortComes() {
        Due.term("then it has an escort, who comes to its street");
        LanternDesk desk = new LanternDesk();
        desk.ask(6, 5);
        desk.pass(1);
        Scenes.states(desk, 1);
        Scenes.escorts(desk, 0);
        Due.is("streetOf(0)", desk.streetOf(0), 7);
        desk.pass(1);
        Scenes.states(desk, 2);
        Due.is("streetOf(0)", desk.streetOf(0), 6);
    }

    private static void bothGoToTheEnd() {
        Due.term("then both go to its end, where it is over");
        LanternDesk desk = new LanternDesk();
        desk.ask(0, 2);
        Due.is("pass(1), with the walker", desk.pass(1), 0);
        Due.is("pass(1), under way", desk.pass(1), 0);
        Scenes.states(desk, 2);
        Due.is("pass(1), at the end", desk.pass(1), 1);
        Scenes.states(desk, 3);
        Scenes.escorts(desk, 0);
        Due.is("streetOf(0)", desk.streetOf(0), 2);
        Due.is("pass(60)", desk.pass(60), 0);
        Scenes.states(desk, 3);
        Due.is("streetOf(0) an hour later", desk.streetOf(0), 2);
    }

    private static void freeEscorts() {
        Due.term("An escort who has no walk is free");
        LanternDesk desk = new LanternDesk();
        for (int escort = 0; escort < 4; escort++) {
            Due.is("place(" + escort + ", 1)", desk.place(escort, 1), 0);
        }
        desk.ask(2, 3);
        Due.is("place(0, 1), the walk waits", desk.place(0, 1), 1);
        desk.pass(1);
        Due.isThrown("place(0, 2), with a walker", Due.STATE, () -> desk.place(0, 2));
        Due.is("place(1, 0), without one", desk.place(1, 0), 1);
        desk.pass(1);
        Scenes.states(desk, 3);
        Due.is("place(0, 5), the walk is over", desk.place(0, 5), 3);
        desk.ask(3, 4);
        desk.pass(1);
        Scenes.escorts(desk, 0, 0);
        Due.isThrown("place(0, 0), who comes", Due.STATE, () -> desk.place(0, 0));
    }
}
