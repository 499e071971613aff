import java.util.Arrays;
import java.util.Map;
import java.util.TreeMap;

/** The document told a second time, in another way than the class does it, to compare answers with. */
final class Model {
    private final int[] purses = new int[8];
    private final int[] prices = new int[8];
    private final boolean[] cameras = new boolean[8];
    private final int[][] votes = new int[8][3];
    private final int[] places = new int[4];
    private final int[] ranks = new int[4];
    private final int[][] walks = new int[60][];
    private final int[] escorts = new int[60];
    private final int[] states = new int[60];
    private final int[] darks = new int[60];
    private final boolean[] told = new boolean[60];
    /** Street, walk and day of each picture that was ever taken, with the first day on which it is gone. */
    private final Map<String, Integer> gone = new TreeMap<>();
    private int asked = 0;
    private int day = 0;
    private int minute = 0;

    Model() {
        Arrays.fill(prices, 1);
        Arrays.fill(ranks, 50);
        Arrays.fill(escorts, -1);
        for (int[] ofStreet : votes) {
            Arrays.fill(ofStreet, 7);
        }
    }

    private static void index(int number, int end) {
        if (number < 0 || number >= end) {
            throw new IndexOutOfBoundsException();
        }
    }

    private static void argument(long number, long least, long most) {
        if (number < least || number > most) {
            throw new IllegalArgumentException();
        }
    }

    private static void state(boolean isAllowed) {
        if (!isAllowed) {
            throw new IllegalStateException();
        }
    }

    private static int next(int from, int to) {
        for (int steps = 1; steps <= 4; steps++) {
            if ((from + steps) % 8 == to) {
                return (from + 1) % 8;
            }
            if ((from + 8 - steps) % 8 == to && steps < 4) {
                return (from + 7) % 8;
            }
        }
        return from;
    }

    private static int length(int from, int to) {
        int steps = 0;
        for (int at = from; at != to; at = next(at, to)) {
            steps++;
        }
        return steps;
    }

    private int middle(int street) {
        int[] sorted = votes[street].clone();
        Arrays.sort(sorted);
        return sorted[1];
    }

    private boolean isFree(int escort) {
        for (int walk = 0; walk < asked; walk++) {
            if (escorts[walk] == escort && states[walk] != 3) {
                return false;
            }
        }
        return true;
    }

    int pay(int street, int coins) {
        index(street, 8);
        argument(coins, 1, 10000);
        state(purses[street] + coins <= 100000);
        return purses[street] += coins;
    }

    int setStreet(int street, int price, boolean hasCamera) {
        index(street, 8);
        argument(price, 0, 50);
        int before = prices[street];
        prices[street] = price;
        cameras[street] = hasCamera;
        return before;
    }

    int vote(int street, int voter, int days) {
        index(street, 8);
        index(voter, 3);
        argument(days, 1, 30);
        votes[street][voter] = days;
        return middle(street);
    }

    int place(int escort, int street) {
        index(escort, 4);
        index(street, 8);
        state(isFree(escort));
        int before = places[escort];
        places[escort] = street;
        return before;
    }

    int ask(int from, int to) {
        index(from, 8);
        index(to, 8);
        argument(from == to ? 0 : 1, 1, 1);
        state(asked < 60);
        walks[asked] = new int[] {from, to};
        return asked++;
    }

    int pass(int minutes) {
        argument(minutes, 1, 60);
        state(minute + minutes <= 1000);
        int before = countOver();
        for (int i = 0; i < minutes; i++) {
            minute++;
            give();
            for (int walk = 0; walk < asked; walk++) {
                if (states[walk] == 1 || states[walk] == 2) {
                    go(walk);
                }
            }
            lookAtStreets();
        }
        return countOver() - before;
    }

    private int countOver() {
        int over = 0;
        for (int walk = 0; walk < asked; walk++) {
            over += states[walk] / 3;
        }
        return over;
    }

    private void give() {
        for (int walk = 0; walk < asked; walk++) {
            int best = -1;
            int bestWorth = -1;
            for (int escort = 0; states[walk] == 0 && escort < 4; escort++) {
                int worth = (4 - length(places[escort], walks[walk][0])) * 1000 + ranks[escort];
                if (isFree(escort) && worth > bestWorth) {
                    best = escort;
                    bestWorth = worth;
                }
            }
            if (best >= 0) {
                escorts[walk] = best;
                states[walk] = 1;
            }
        }
    }

    private void go(int walk) {
        int escort = escorts[walk];
        if (states[walk] == 2) {
            places[escort] = next(places[escort], walks[walk][1]);
        } else {
            if (places[escort] != walks[walk][0]) {
                places[escort] = next(places[escort], walks[walk][0]);
            }
            states[walk] = places[escort] == walks[walk][0] ? 2 : 1;
        }
    }

    /** Street by street and behind all moves: neither order shows in an answer. */
    private void lookAtStreets() {
        for (int street = 0; street < 8; street++) {
            for (int walk = 0; walk < asked; walk++) {
                if (states[walk] == 2 && places[escorts[walk]] == street) {
                    light(street, walk);
                    if (cameras[street]) {
                        gone.putIfAbsent(street + "/" + walk + "/" + day, day + middle(street));
                    }
                    states[walk] = street == walks[walk][1] ? 3 : 2;
                }
            }
        }
    }

    private void light(int street, int walk) {
        int left = purses[street] - prices[street];
        if (left < 0) {
            darks[walk]++;
        } else {
            purses[street] = left;
        }
    }

    int night() {
        state(countOver() == asked && day < 1000);
        int before = pictures();
        day++;
        minute = 0;
        return before - pictures();
    }

    int complain(int walk, boolean isPraise) {
        index(walk, asked);
        state(states[walk] == 3 && !told[walk]);
        told[walk] = true;
        int rank = ranks[escorts[walk]] + (isPraise ? 5 : -10);
        ranks[escorts[walk]] = rank < 0 ? 0 : rank > 100 ? 100 : rank;
        return ranks[escorts[walk]];
    }

    int day() {
        return day;
    }

    int minute() {
        return minute;
    }

    int purse(int street) {
        index(street, 8);
        return purses[street];
    }

    int walks() {
        return asked;
    }

    int state(int walk) {
        index(walk, asked);
        return states[walk];
    }

    int escortOf(int walk) {
        index(walk, asked);
        return escorts[walk];
    }

    int dark(int walk) {
        index(walk, asked);
        return darks[walk];
    }

    int streetOf(int escort) {
        index(escort, 4);
        return places[escort];
    }

    int rank(int escort) {
        index(escort, 4);
        return ranks[escort];
    }

    int way(int from, int to) {
        index(from, 8);
        index(to, 8);
        return length(from, to);
    }

    int pictures() {
        int kept = 0;
        for (int until : gone.values()) {
            kept += until > day ? 1 : 0;
        }
        return kept;
    }

    boolean shows(int street, int walk, int takenOn) {
        index(street, 8);
        index(walk, asked);
        return gone.getOrDefault(street + "/" + walk + "/" + takenOn, 0) > day;
    }

    int taken() {
        return gone.size();
    }
}
