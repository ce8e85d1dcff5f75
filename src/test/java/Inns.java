/** Inns for the tests, and what stands in one, written as a text. */
final class Inns {
    private Inns() {
    }

    /** An inn with rooms at these windows, whose lamps burn. */
    static FireflyInn withRooms(int... windows) {
        FireflyInn inn = new FireflyInn();
        for (int x : windows) {
            inn.open(x);
        }
        return inn;
    }

    /** An inn with rooms at these windows, whose lamps are out. */
    static FireflyInn withDarkRooms(int... windows) {
        FireflyInn inn = withRooms(windows);
        for (int r = 0; r < windows.length; r++) {
            inn.lamp(r);
        }
        return inn;
    }

    /** An inn with as much of everything as there can be: 40 in each cell, 6 rooms, 12 guests with jars. */
    static FireflyInn full() {
        FireflyInn inn = withRooms(0, 2, 4, 6, 8, 9);
        for (int x = 0; x < 10; x++) {
            setColumn(inn, x, 40, 40, 40, 40, 40);
        }
        for (int g = 0; g < 12; g++) {
            inn.stay(g / 2, 9, true);
        }
        return inn;
    }

    static void setColumn(FireflyInn inn, int x, int... many) {
        for (int y = 0; y < many.length; y++) {
            inn.swarm(x, y, many[y]);
        }
    }

    /** Everything that count() tells, to be compared in one. */
    static String counts(FireflyInn inn) {
        StringBuilder text = new StringBuilder();
        for (int what = 0; what <= 8; what++) {
            text.append(what == 0 ? "" : " ").append(inn.count(what));
        }
        return text.toString();
    }

    static String column(FireflyInn inn, int x) {
        StringBuilder text = new StringBuilder();
        for (int y = 0; y < 5; y++) {
            text.append(y == 0 ? "" : " ").append(inn.cell(x, y));
        }
        return text.toString();
    }

    static String row(FireflyInn inn, int y) {
        StringBuilder text = new StringBuilder();
        for (int x = 0; x < 10; x++) {
            text.append(x == 0 ? "" : " ").append(inn.cell(x, y));
        }
        return text.toString();
    }

    static String allOfGuest(FireflyInn inn, int guest) {
        StringBuilder text = new StringBuilder();
        for (int what = 0; what <= 5; what++) {
            text.append(what == 0 ? "" : " ").append(inn.guest(guest, what));
        }
        return text.toString();
    }

    static String allOfRoom(FireflyInn inn, int room) {
        StringBuilder text = new StringBuilder();
        for (int what = 0; what <= 4; what++) {
            text.append(what == 0 ? "" : " ").append(inn.room(room, what));
        }
        return text.toString();
    }

    /** All that can be asked of an inn, in at most 180 calls: for rooms and guests it asks until there is none. */
    static String everything(FireflyInn inn) {
        StringBuilder text = new StringBuilder(counts(inn));
        for (int y = 0; y < 5; y++) {
            text.append("; ").append(row(inn, y));
        }
        for (int x = 0; x < 10; x++) {
            text.append(inn.isLit(x) ? "+" : "-");
        }
        for (int r = 0; Check.isThere(r, inn::room); r++) {
            text.append("; room ").append(allOfRoom(inn, r));
        }
        for (int g = 0; Check.isThere(g, inn::guest); g++) {
            text.append("; guest ").append(allOfGuest(inn, g));
        }
        return text.append("; ").append(inn.mean()).append(' ').append(inn.digest()).toString();
    }
}
