import java.util.ArrayList;

/** The desk of a night service of eight streets: escorts, lights, pictures, votes and complaints. */
public final class LanternDesk {
    private static final int STREETS = 8;
    private static final int ESCORTS = 4;
    private static final int VOTERS = 3;
    private static final int MOST_WALKS = 60;
    private static final int MOST_PICTURES = 300;
    private static final int MOST_IN_PURSE = 100000;
    private static final int MOST_PAID = 10000;
    private static final int HIGHEST_PRICE = 50;
    private static final int FIRST_PRICE = 1;
    private static final int LONGEST_VOTE = 30;
    private static final int FIRST_VOTE = 7;
    private static final int HIGHEST_RANK = 100;
    private static final int FIRST_RANK = 50;
    private static final int LOST_BY_COMPLAINT = 10;
    private static final int WON_BY_PRAISE = 5;
    private static final int MOST_PASSED = 60;
    private static final int LAST_MINUTE = 1000;
    private static final int LAST_DAY = 1000;

    // The states of a walk, by the numbers that the document gives them.
    private static final int WAITS = 0;
    private static final int COMING = 1;
    private static final int TOGETHER = 2;
    private static final int OVER = 3;

    private final Street[] streets = new Street[STREETS];
    private final Escort[] escorts = new Escort[ESCORTS];
    private final ArrayList<Walk> walks = new ArrayList<>();
    private final Album album = new Album();
    private int day = 0;
    private int minute = 0;

    public LanternDesk() {
        for (int i = 0; i < streets.length; i++) {
            streets[i] = new Street();
        }
        for (int i = 0; i < escorts.length; i++) {
            escorts[i] = new Escort(i);
        }
    }

    // ---- streets

    public int pay(int street, int coins)
            throws IndexOutOfBoundsException, IllegalArgumentException, IllegalStateException {
        Street payee = findStreet(street);
        if (payee == null) {
            throw new IndexOutOfBoundsException("no such street");
        }
        if (coins < 1 || coins > MOST_PAID) {
            throw new IllegalArgumentException("coins out of range");
        }
        if (payee.purse > MOST_IN_PURSE - coins) {
            throw new IllegalStateException("the purse would be too full");
        }
        payee.purse += coins;
        return payee.purse;
    }

    public int setStreet(int street, int price, boolean hasCamera)
            throws IndexOutOfBoundsException, IllegalArgumentException {
        Street changed = findStreet(street);
        if (changed == null) {
            throw new IndexOutOfBoundsException("no such street");
        }
        if (price < 0 || price > HIGHEST_PRICE) {
            throw new IllegalArgumentException("price out of range");
        }
        int before = changed.price;
        changed.price = price;
        changed.hasCamera = hasCamera;
        return before;
    }

    public int vote(int street, int voter, int days) throws IndexOutOfBoundsException, IllegalArgumentException {
        Street voting = findStreet(street);
        if (voting == null) {
            throw new IndexOutOfBoundsException("no such street");
        }
        if (voter < 0 || voter >= VOTERS) {
            throw new IndexOutOfBoundsException("no such voter");
        }
        if (days < 1 || days > LONGEST_VOTE) {
            throw new IllegalArgumentException("days out of range");
        }
        voting.setVote(voter, days);
        return voting.daysKept();
    }

    // ---- walks

    public int place(int escort, int street) throws IndexOutOfBoundsException, IllegalStateException {
        Escort placed = findEscort(escort);
        if (placed == null) {
            throw new IndexOutOfBoundsException("no such escort");
        }
        if (!isStreet(street)) {
            throw new IndexOutOfBoundsException("no such street");
        }
        if (!placed.isFree) {
            throw new IllegalStateException("the escort is not free");
        }
        int before = placed.street;
        placed.street = street;
        return before;
    }

    public int ask(int from, int to)
            throws IndexOutOfBoundsException, IllegalArgumentException, IllegalStateException {
        if (!isStreet(from) || !isStreet(to)) {
            throw new IndexOutOfBoundsException("no such street");
        }
        if (from == to) {
            throw new IllegalArgumentException("the walk goes nowhere");
        }
        if (walks.size() >= MOST_WALKS) {
            throw new IllegalStateException("no more walks can be asked for");
        }
        int number = walks.size();
        walks.add(new Walk(number, from, to));
        return number;
    }

    public int pass(int minutes) throws IllegalArgumentException, IllegalStateException {
        if (minutes < 1 || minutes > MOST_PASSED) {
            throw new IllegalArgumentException("minutes out of range");
        }
        if (minute > LAST_MINUTE - minutes) {
            throw new IllegalStateException("the night would be too long");
        }
        int ended = 0;
        for (int i = 0; i < minutes; i++) {
            giveEscorts();
            ended += goOn();
        }
        minute += minutes;
        return ended;
    }

    public int night() throws IllegalStateException {
        if (!areAllOver()) {
            throw new IllegalStateException("a walk is not over");
        }
        if (day >= LAST_DAY) {
            throw new IllegalStateException("it is the last day");
        }
        day++;
        minute = 0;
        return album.eraseDue(day);
    }

    public int complain(int walk, boolean isPraise) throws IndexOutOfBoundsException, IllegalStateException {
        Walk judged = findWalk(walk);
        if (judged == null) {
            throw new IndexOutOfBoundsException("no such walk");
        }
        Escort escort = judged.escort;
        if (judged.state != OVER || escort == null) {
            throw new IllegalStateException("the walk is not over");
        }
        if (judged.isJudged) {
            throw new IllegalStateException("the walk was judged before");
        }
        judged.isJudged = true;
        escort.rank = isPraise
                ? Math.min(HIGHEST_RANK, escort.rank + WON_BY_PRAISE)
                : Math.max(0, escort.rank - LOST_BY_COMPLAINT);
        return escort.rank;
    }

    // ---- what there is; nothing from here on changes anything

    public int day() {
        return day;
    }

    public int minute() {
        return minute;
    }

    public int purse(int street) throws IndexOutOfBoundsException {
        Street found = findStreet(street);
        if (found == null) {
            throw new IndexOutOfBoundsException("no such street");
        }
        return found.purse;
    }

    public int walks() {
        return walks.size();
    }

    public int state(int walk) throws IndexOutOfBoundsException {
        Walk found = findWalk(walk);
        if (found == null) {
            throw new IndexOutOfBoundsException("no such walk");
        }
        return found.state;
    }

    public int escortOf(int walk) throws IndexOutOfBoundsException {
        Walk found = findWalk(walk);
        if (found == null) {
            throw new IndexOutOfBoundsException("no such walk");
        }
        Escort escort = found.escort;
        return escort == null ? -1 : escort.number;
    }

    public int dark(int walk) throws IndexOutOfBoundsException {
        Walk found = findWalk(walk);
        if (found == null) {
            throw new IndexOutOfBoundsException("no such walk");
        }
        return found.minutesInDark;
    }

    public int streetOf(int escort) throws IndexOutOfBoundsException {
        Escort found = findEscort(escort);
        if (found == null) {
            throw new IndexOutOfBoundsException("no such escort");
        }
        return found.street;
    }

    public int rank(int escort) throws IndexOutOfBoundsException {
        Escort found = findEscort(escort);
        if (found == null) {
            throw new IndexOutOfBoundsException("no such escort");
        }
        return found.rank;
    }

    public int way(int from, int to) throws IndexOutOfBoundsException {
        if (!isStreet(from) || !isStreet(to)) {
            throw new IndexOutOfBoundsException("no such street");
        }
        return distance(from, to);
    }

    // ---- pictures

    public int pictures() {
        return album.countKept();
    }

    public boolean shows(int street, int walk, int day) throws IndexOutOfBoundsException {
        if (!isStreet(street)) {
            throw new IndexOutOfBoundsException("no such street");
        }
        if (findWalk(walk) == null) {
            throw new IndexOutOfBoundsException("no such walk");
        }
        return album.keeps(street, walk, day);
    }

    public boolean showsByPapers(int street, int walk, int day) throws IndexOutOfBoundsException {
        if (!isStreet(street)) {
            throw new IndexOutOfBoundsException("no such street");
        }
        if (findWalk(walk) == null) {
            throw new IndexOutOfBoundsException("no such walk");
        }
        return album.papersTell(street, walk, day, this.day);
    }

    public int taken() {
        return album.countTaken();
    }

    // ---- what is looked up by its number; null if there is no such one

    private static boolean isStreet(int street) {
        return street >= 0 && street < STREETS;
    }

    private Street findStreet(int street) {
        return street < 0 || street >= streets.length ? null : streets[street];
    }

    private Escort findEscort(int escort) {
        return escort < 0 || escort >= escorts.length ? null : escorts[escort];
    }

    private Walk findWalk(int walk) {
        return walk < 0 || walk >= walks.size() ? null : walks.get(walk);
    }

    // ---- the ring

    private static int stepsUp(int from, int to) {
        return Math.floorMod(to - from, STREETS);
    }

    private static int distance(int from, int to) {
        int up = stepsUp(from, to);
        return Math.min(up, STREETS - up);
    }

    /** The street after one step on the way; where both sides are as long, it goes up. */
    private static int oneStepOn(int from, int to) {
        int up = stepsUp(from, to);
        if (up == 0) {
            return from;
        }
        return Math.floorMod(up <= STREETS - up ? from + 1 : from - 1, STREETS);
    }

    // ---- a minute

    private void giveEscorts() {
        for (int i = 0; i < walks.size(); i++) {
            Walk walk = walks.get(i);
            if (walk.state == WAITS) {
                Escort escort = bestFreeEscort(walk.from);
                if (escort == null) {
                    return;
                }
                escort.isFree = false;
                walk.escort = escort;
                walk.state = COMING;
            }
        }
    }

    /** The free escort for a walk from this street, or null; of equals the lowest number is met first. */
    private Escort bestFreeEscort(int street) {
        Escort best = null;
        for (int i = 0; i < escorts.length; i++) {
            Escort next = escorts[i];
            if (next != null && next.isFree && (best == null || isBetter(next, best, street))) {
                best = next;
            }
        }
        return best;
    }

    private static boolean isBetter(Escort one, Escort other, int street) {
        int oneWay = distance(one.street, street);
        int otherWay = distance(other.street, street);
        return oneWay < otherWay || (oneWay == otherWay && one.rank > other.rank);
    }

    /** Lets every walk with an escort go on by a minute; returns how many are over by it. */
    private int goOn() {
        int ended = 0;
        for (int i = 0; i < walks.size(); i++) {
            Walk walk = walks.get(i);
            Escort escort = walk.escort;
            if (escort != null && walk.state != OVER) {
                move(walk, escort);
                if (walk.state == TOGETHER) {
                    see(walk, escort.street);
                    ended += endIfThere(walk, escort);
                }
            }
        }
        return ended;
    }

    private static void move(Walk walk, Escort escort) {
        if (walk.state == TOGETHER) {
            escort.street = oneStepOn(escort.street, walk.to);
            return;
        }
        escort.street = oneStepOn(escort.street, walk.from);
        if (escort.street == walk.from) {
            walk.state = TOGETHER;
        }
    }

    /** The street lights the walk if it can pay for it, and takes its picture if it has a camera. */
    private void see(Walk walk, int number) {
        Street street = findStreet(number);
        if (street == null) {
            return;
        }
        if (street.purse >= street.price) {
            street.purse -= street.price;
        } else {
            walk.minutesInDark++;
        }
        if (street.hasCamera) {
            album.take(number, walk.number, day, day + street.daysKept());
        }
    }

    private static int endIfThere(Walk walk, Escort escort) {
        if (escort.street != walk.to) {
            return 0;
        }
        walk.state = OVER;
        escort.isFree = true;
        return 1;
    }

    private boolean areAllOver() {
        for (int i = 0; i < walks.size(); i++) {
            if (walks.get(i).state != OVER) {
                return false;
            }
        }
        return true;
    }

    private static final class Street {
        private int purse = 0;
        private int price = FIRST_PRICE;
        private boolean hasCamera = false;
        private final int[] votes = new int[VOTERS];

        Street() {
            for (int i = 0; i < votes.length; i++) {
                votes[i] = FIRST_VOTE;
            }
        }

        void setVote(int voter, int days) {
            if (voter >= 0 && voter < votes.length) {
                votes[voter] = days;
            }
        }

        /** Of three votes the middle one is what their sum leaves without the lowest and the highest. */
        int daysKept() {
            int sum = 0;
            int lowest = LONGEST_VOTE;
            int highest = 1;
            for (int vote : votes) {
                sum += vote;
                lowest = Math.min(lowest, vote);
                highest = Math.max(highest, vote);
            }
            return sum - lowest - highest;
        }
    }

    private static final class Escort {
        private final int number;
        private int street = 0;
        private int rank = FIRST_RANK;
        private boolean isFree = true;

        Escort(int number) {
            this.number = number;
        }
    }

    private static final class Walk {
        private final int number;
        private final int from;
        private final int to;
        private int state = WAITS;
        private Escort escort = null;
        private int minutesInDark = 0;
        private boolean isJudged = false;

        Walk(int number, int from, int to) {
            this.number = number;
            this.from = from;
            this.to = to;
        }
    }

    private static final class Picture {
        private final int street;
        private final int walk;
        private final int takenOn;
        private final int erasedOn;

        Picture(int street, int walk, int takenOn, int erasedOn) {
            this.street = street;
            this.walk = walk;
            this.takenOn = takenOn;
            this.erasedOn = erasedOn;
        }

        boolean isOf(int otherStreet, int otherWalk, int otherDay) {
            return street == otherStreet && walk == otherWalk && takenOn == otherDay;
        }
    }

    /** The papers of all pictures that were ever taken, and by themselves the pictures that are kept. */
    private static final class Album {
        private final ArrayList<Picture> papers = new ArrayList<>();
        private final ArrayList<Picture> kept = new ArrayList<>();

        int countTaken() {
            return papers.size();
        }

        int countKept() {
            return kept.size();
        }

        void take(int street, int walk, int today, int erasedOn) {
            if (papers.size() >= MOST_PICTURES || keeps(street, walk, today)) {
                return;
            }
            Picture picture = new Picture(street, walk, today, erasedOn);
            papers.add(picture);
            kept.add(picture);
        }

        boolean keeps(int street, int walk, int takenOn) {
            for (int i = 0; i < kept.size(); i++) {
                if (kept.get(i).isOf(street, walk, takenOn)) {
                    return true;
                }
            }
            return false;
        }

        boolean papersTell(int street, int walk, int takenOn, int today) {
            for (int i = 0; i < papers.size(); i++) {
                Picture picture = papers.get(i);
                if (picture.isOf(street, walk, takenOn) && picture.erasedOn > today) {
                    return true;
                }
            }
            return false;
        }

        /** Erases what is due on this day; returns how many pictures that are. */
        int eraseDue(int today) {
            int erased = 0;
            for (int i = kept.size() - 1; i >= 0; i--) {
                if (kept.get(i).erasedOn <= today) {
                    kept.remove(i);
                    erased++;
                }
            }
            return erased;
        }
    }
}
