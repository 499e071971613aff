/** Long runs of calls, right and wrong ones, each answer compared with the model's. */
public final class ModelTest {
    private static final int RUNS = 4000;
    /** An object's answers are promised for so many calls. */
    private static final int CALLS = 512;
    private static final int[] FAR = {-1, 8, 60, 61, 1000, 10001, 1 << 16, Integer.MIN_VALUE, Integer.MAX_VALUE};

    private long seed;
    private final LanternDesk desk = new LanternDesk();
    private final Model model = new Model();
    private final boolean isRich;
    private final boolean isSlow;
    private final boolean isForgetful;

    private ModelTest(long seed) {
        this.seed = seed;
        isRich = below(2) == 0;
        isSlow = below(3) != 0;
        isForgetful = below(2) == 0;
    }

    public static void main(String[] args) {
        for (int run = 0; run < RUNS; run++) {
            ModelTest test = new ModelTest(run);
            for (int call = 0; call < CALLS; call++) {
                test.callOnce("run " + run + ", call " + call + ": ");
            }
        }
        Due.end();
    }

    /** A fixed row of numbers, the same in every run of the tests. */
    private int below(int end) {
        seed = seed * 6364136223846793005L + 1442695040888963407L;
        return (int) ((seed >>> 33) % end);
    }

    /** Mostly a number in the range, now and then one at its edge or far outside. */
    private int some(int least, int most) {
        int kind = below(50);
        if (kind == 0) {
            return FAR[below(FAR.length)];
        }
        if (kind == 1) {
            return below(2) == 0 ? least - 1 : most + 1;
        }
        if (kind < 4) {
            return below(2) == 0 ? least : most;
        }
        return least + below(most - least + 1);
    }

    private int someStreet() {
        return some(0, 7);
    }

    /** Often one of the newest walks, of which most is still to come. */
    private int someWalk() {
        int last = Math.max(0, model.walks() - 1);
        return below(2) == 0 ? some(Math.max(0, last - 5), last) : some(0, last);
    }

    private void callOnce(String where) {
        int kind = below(30);
        if (kind < 5) {
            callStreets(where);
        } else if (kind < 17) {
            callWalks(where);
        } else if (kind < 24) {
            askWhatThereIs(where);
        } else {
            askPictures(where);
        }
    }

    private static void same(String call, Due.Call got, Due.Call want) {
        Due.is(call, Due.outcome(got), Due.outcome(want));
    }

    private void callStreets(String where) {
        int street = someStreet();
        int kind = below(3);
        if (kind == 0 && isRich) {
            int rich = some(0, 1);
            int coins = below(3) == 0 ? some(1, 10000) : some(9990, 10000);
            same(where + "pay(" + rich + ", " + coins + ")", () -> desk.pay(rich, coins), () -> model.pay(rich, coins));
        } else if (kind == 0) {
            int coins = some(1, 60);
            same(where + "pay(" + street + ", " + coins + ")",
                    () -> desk.pay(street, coins), () -> model.pay(street, coins));
        } else if (kind == 1) {
            int price = some(0, 50);
            boolean hasCamera = below(4) != 0;
            same(where + "setStreet(" + street + ", " + price + ", " + hasCamera + ")",
                    () -> desk.setStreet(street, price, hasCamera), () -> model.setStreet(street, price, hasCamera));
        } else {
            int voter = some(0, 2);
            int days = isForgetful ? some(1, 3) : some(1, 30);
            same(where + "vote(" + street + ", " + voter + ", " + days + ")",
                    () -> desk.vote(street, voter, days), () -> model.vote(street, voter, days));
        }
    }

    private void callWalks(String where) {
        int kind = below(12);
        if (kind < 2) {
            int escort = some(0, 3);
            int street = someStreet();
            same(where + "place(" + escort + ", " + street + ")",
                    () -> desk.place(escort, street), () -> model.place(escort, street));
        } else if (kind < 5) {
            int from = someStreet();
            int to = someStreet();
            same(where + "ask(" + from + ", " + to + ")", () -> desk.ask(from, to), () -> model.ask(from, to));
        } else if (kind < 8) {
            int minutes = isSlow ? some(1, 4) : some(1, 60);
            same(where + "pass(" + minutes + ")", () -> desk.pass(minutes), () -> model.pass(minutes));
        } else if (kind < 10) {
            same(where + "night()", () -> desk.night(), () -> model.night());
        } else {
            int walk = someWalk();
            boolean isPraise = below(2) == 0;
            same(where + "complain(" + walk + ", " + isPraise + ")",
                    () -> desk.complain(walk, isPraise), () -> model.complain(walk, isPraise));
        }
    }

    private void askWhatThereIs(String where) {
        int kind = below(10);
        if (kind < 3) {
            askOfWalk(where, kind);
        } else if (kind < 5) {
            int escort = some(0, 3);
            if (kind == 3) {
                same(where + "streetOf(" + escort + ")", () -> desk.streetOf(escort), () -> model.streetOf(escort));
            } else {
                same(where + "rank(" + escort + ")", () -> desk.rank(escort), () -> model.rank(escort));
            }
        } else if (kind < 7) {
            int street = someStreet();
            int to = someStreet();
            if (kind == 5) {
                same(where + "purse(" + street + ")", () -> desk.purse(street), () -> model.purse(street));
            } else {
                same(where + "way(" + street + ", " + to + ")", () -> desk.way(street, to), () -> model.way(street, to));
            }
        } else if (kind == 7) {
            Due.is(where + "day()", desk.day(), model.day());
        } else if (kind == 8) {
            Due.is(where + "minute()", desk.minute(), model.minute());
        } else {
            Due.is(where + "walks()", desk.walks(), model.walks());
        }
    }

    private void askOfWalk(String where, int kind) {
        int walk = someWalk();
        if (kind == 0) {
            same(where + "state(" + walk + ")", () -> desk.state(walk), () -> model.state(walk));
        } else if (kind == 1) {
            same(where + "escortOf(" + walk + ")", () -> desk.escortOf(walk), () -> model.escortOf(walk));
        } else {
            same(where + "dark(" + walk + ")", () -> desk.dark(walk), () -> model.dark(walk));
        }
    }

    private void askPictures(String where) {
        int street = someStreet();
        int walk = someWalk();
        int takenOn = some(Math.max(0, model.day() - 8), model.day());
        String arguments = "(" + street + ", " + walk + ", " + takenOn + ")";
        int kind = below(6);
        if (kind == 0) {
            Due.is(where + "pictures()", desk.pictures(), model.pictures());
        } else if (kind == 1) {
            Due.is(where + "taken()", desk.taken(), model.taken());
        } else if (kind < 4) {
            same(where + "shows" + arguments,
                    () -> desk.shows(street, walk, takenOn), () -> model.shows(street, walk, takenOn));
        } else {
            same(where + "showsByPapers" + arguments,
                    () -> desk.showsByPapers(street, walk, takenOn), () -> model.shows(street, walk, takenOn));
        }
    }
}
