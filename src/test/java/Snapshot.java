/** All that an object tells of itself, as one text. */
final class Snapshot {
    private static final int STREETS = 8;
    private static final int ESCORTS = 4;

    private Snapshot() {
    }

    static String of(LanternDesk desk) {
        StringBuilder text = new StringBuilder();
        text.append("day ").append(desk.day()).append(" minute ").append(desk.minute());
        text.append(" pictures ").append(desk.pictures()).append(" taken ").append(desk.taken());
        for (int street = 0; street < STREETS; street++) {
            text.append(" purse ").append(desk.purse(street));
        }
        for (int escort = 0; escort < ESCORTS; escort++) {
            text.append(" escort ").append(desk.streetOf(escort)).append('/').append(desk.rank(escort));
        }
        for (int walk = 0; walk < desk.walks(); walk++) {
            text.append(" walk ").append(desk.state(walk)).append('/').append(desk.escortOf(walk));
            text.append('/').append(desk.dark(walk)).append(picturesOf(desk, walk));
        }
        return text.toString();
    }

    private static String picturesOf(LanternDesk desk, int walk) {
        StringBuilder text = new StringBuilder();
        for (int street = 0; street < STREETS; street++) {
            for (int day = 0; day <= desk.day(); day++) {
                text.append(desk.shows(street, walk, day) ? '1' : '0');
                text.append(desk.showsByPapers(street, walk, day) ? '1' : '0');
            }
        }
        return text.toString();
    }
}
