import java.util.ArrayList;
import java.util.List;

/**
 * The document once more, written for the tests in another way than the program: with guests and rooms as
 * objects, with each step of a night on a fresh picture of the hedge, and with what would be tried on a copy.
 */
final class PlainInn {
    static final class Room {
        int window;
        boolean burns = true;
    }

    static final class Guest {
        int room;
        int whisper;
        boolean jar;
        boolean gone;
        int took;
        int saw;
    }

    int[][] hedge = new int[10][5];
    List<Room> rooms = new ArrayList<>();
    List<Guest> guests = new ArrayList<>();
    int night;
    int found;

    PlainInn copy() {
        PlainInn other = new PlainInn();
        for (int x = 0; x < 10; x++) {
            other.hedge[x] = hedge[x].clone();
        }
        for (Room r : rooms) {
            Room s = new Room();
            s.window = r.window;
            s.burns = r.burns;
            other.rooms.add(s);
        }
        for (Guest g : guests) {
            Guest h = new Guest();
            h.room = g.room;
            h.whisper = g.whisper;
            h.jar = g.jar;
            h.gone = g.gone;
            h.took = g.took;
            h.saw = g.saw;
            other.guests.add(h);
        }
        other.night = night;
        other.found = found;
        return other;
    }

    private static void index(boolean fine) {
        if (!fine) {
            throw new IndexOutOfBoundsException();
        }
    }

    private static void argument(boolean fine) {
        if (!fine) {
            throw new IllegalArgumentException();
        }
    }

    private static void state(boolean fine) {
        if (!fine) {
            throw new IllegalStateException();
        }
    }

    private static boolean within(int value, int first, int last) {
        return first <= value && value <= last;
    }

    private Room findRoom(int room) {
        index(within(room, 0, rooms.size() - 1));
        return rooms.get(room);
    }

    private Guest findGuest(int guest) {
        index(within(guest, 0, guests.size() - 1));
        return guests.get(guest);
    }

    int swarm(int x, int y, int many) {
        index(within(x, 0, 9) && within(y, 0, 4));
        argument(within(many, 0, 40));
        int before = hedge[x][y];
        hedge[x][y] = many;
        return before;
    }

    int cell(int x, int y) {
        index(within(x, 0, 9) && within(y, 0, 4));
        return hedge[x][y];
    }

    int open(int x) {
        argument(within(x, 0, 9));
        state(rooms.size() < 6);
        Room r = new Room();
        r.window = x;
        rooms.add(r);
        return rooms.size() - 1;
    }

    boolean lamp(int room) {
        Room r = findRoom(room);
        r.burns = !r.burns;
        return r.burns;
    }

    int room(int room, int what) {
        Room r = findRoom(room);
        index(within(what, 0, 4));
        int[] told = {r.window, r.burns ? 1 : 0, 0, 0, 0};
        for (Guest g : guests) {
            if (!g.gone && g.room == room) {
                told[2] += 1;
                told[3] += g.whisper;
                told[4] += g.jar ? 1 : 0;
            }
        }
        return told[what];
    }

    boolean isLit(int x) {
        index(within(x, 0, 9));
        boolean lit = false;
        for (Room r : rooms) {
            lit = lit || r.burns && within(x, r.window - 1, r.window + 1);
        }
        return lit;
    }

    int stay(int room, int whisper, boolean jar) {
        findRoom(room);
        argument(within(whisper, 0, 9));
        state(guests.size() < 12);
        Guest g = new Guest();
        g.room = room;
        g.whisper = whisper;
        g.jar = jar;
        guests.add(g);
        return guests.size() - 1;
    }

    int move(int guest, int room) {
        Guest g = findGuest(guest);
        findRoom(room);
        state(!g.gone);
        int before = g.room;
        g.room = room;
        return before;
    }

    int leave(int guest) {
        Guest g = findGuest(guest);
        state(!g.gone);
        g.gone = true;
        g.jar = false;
        return g.saw;
    }

    int hush(int guest, int whisper) {
        Guest g = findGuest(guest);
        argument(within(whisper, 0, 9));
        int before = g.whisper;
        g.whisper = whisper;
        return before;
    }

    int guest(int guest, int what) {
        Guest g = findGuest(guest);
        index(within(what, 0, 5));
        return new int[] {g.room, g.whisper, g.jar ? 1 : 0, g.took, g.saw, g.gone ? 1 : 0}[what];
    }

    int count(int what) {
        index(within(what, 0, 8));
        int[] told = {night, moon(night), all(), rooms.size(), 0, 0, 0, found, 0};
        for (Room r : rooms) {
            told[4] += r.burns ? 1 : 0;
        }
        for (Guest g : guests) {
            told[5] += g.gone ? 0 : 1;
            told[6] += g.jar ? 1 : 0;
        }
        for (int x = 0; x < 10; x++) {
            told[8] += isLit(x) ? 1 : 0;
        }
        return told[what];
    }

    int pass(int nights) {
        argument(within(nights, 1, 60));
        return spend(nights);
    }

    int dark(int most) {
        argument(within(most, 0, 4));
        int n = night;
        while (moon(n) > most) {
            n++;
        }
        return n - night;
    }

    int foresee(int nights, int what) {
        argument(within(nights, 1, 60));
        index(within(what, 0, 2));
        PlainInn then = copy();
        int seen = then.spend(nights);
        return new int[] {seen, then.all(), then.taken() - taken()}[what];
    }

    int advise(int nights) {
        argument(within(nights, 1, 30));
        int[] seen = new int[rooms.size()];
        for (int r = 0; r < seen.length; r++) {
            PlainInn then = copy();
            then.rooms.get(r).burns = false;
            seen[r] = then.spend(nights);
        }
        return firstAbove(seen, copy().spend(nights));
    }

    int harm(int nights) {
        argument(within(nights, 1, 30));
        int[] left = new int[guests.size()];
        for (int g = 0; g < left.length; g++) {
            PlainInn then = copy();
            then.guests.get(g).jar = false;
            then.spend(nights);
            left[g] = guests.get(g).gone ? -1 : then.all();
        }
        PlainInn then = copy();
        then.spend(nights);
        return firstAbove(left, then.all());
    }

    private static int firstAbove(int[] values, int floor) {
        int greatest = floor;
        for (int v : values) {
            greatest = Math.max(greatest, v);
        }
        for (int i = 0; i < values.length && greatest > floor; i++) {
            if (values[i] == greatest) {
                return i;
            }
        }
        return -1;
    }

    double mean() {
        double sum = 0;
        for (Guest g : guests) {
            sum += g.saw;
        }
        return guests.isEmpty() ? 0 : sum / guests.size();
    }

    long digest() {
        List<Integer> numbers = new ArrayList<>();
        for (int what = 0; what <= 8; what++) {
            numbers.add(count(what));
        }
        for (int i = 0; i < 50; i++) {
            numbers.add(hedge[i % 10][i / 10]);
        }
        for (int r = 0; r < rooms.size(); r++) {
            for (int what = 0; what <= 4; what++) {
                numbers.add(room(r, what));
            }
        }
        for (int g = 0; g < guests.size(); g++) {
            for (int what = 0; what <= 5; what++) {
                numbers.add(guest(g, what));
            }
        }
        long d = 1093;
        for (int x : numbers) {
            d = d * 31 + x;
        }
        return d;
    }

    static int moon(int night) {
        return new int[] {0, 1, 2, 3, 4, 3, 2, 1}[night % 8];
    }

    int all() {
        int sum = 0;
        for (int[] column : hedge) {
            for (int many : column) {
                sum += many;
            }
        }
        return sum;
    }

    int taken() {
        int sum = 0;
        for (Guest g : guests) {
            sum += g.took;
        }
        return sum;
    }

    private int spend(int nights) {
        int seen = 0;
        for (int n = 0; n < nights; n++) {
            seen += oneNight();
        }
        return seen;
    }

    private int oneNight() {
        int[][] then = new int[10][5];
        for (int x = 0; x < 10; x++) {
            boolean left = isLit(x) && x > 0 && !isLit(x - 1);
            boolean right = isLit(x) && !left && x < 9 && !isLit(x + 1);
            for (int y = 0; y < 5; y++) {
                int going = left || right ? hedge[x][y] / 2 : 0;
                then[x][y] += hedge[x][y] - going;
                if (going > 0) {
                    then[left ? x - 1 : x + 1][y] += going;
                }
            }
        }
        for (int x = 0; x < 10; x++) {
            for (int y = 0; y < 5; y++) {
                hedge[x][y] = Math.min(40, then[x][y]);
            }
        }
        for (int r = 0; r < rooms.size(); r++) {
            int[] column = hedge[rooms.get(r).window];
            for (int y = 3; y >= 0 && room(r, 3) > 9; y--) {
                int both = column[y] + column[y + 1];
                column[y + 1] = Math.min(40, both);
                column[y] = both - column[y + 1];
            }
        }
        int seen = 0;
        for (Guest g : guests) {
            Room r = rooms.get(g.room);
            if (!g.gone && !r.burns && moon(night) != 4) {
                int near = 0;
                for (int x = Math.max(0, r.window - 1); x <= Math.min(9, r.window + 1); x++) {
                    for (int many : hedge[x]) {
                        near += many;
                    }
                }
                g.saw += near / (moon(night) + 1);
                seen += near / (moon(night) + 1);
            }
        }
        for (Guest g : guests) {
            int[] column = hedge[rooms.get(g.room).window];
            int y = 0;
            while (y < 5 && column[y] == 0) {
                y++;
            }
            if (!g.gone && g.jar && y < 5) {
                int taken = column[y] < 3 ? column[y] : 3;
                column[y] -= taken;
                g.took += taken;
            }
        }
        for (Guest g : guests) {
            if (g.jar && g.room == night % rooms.size()) {
                g.jar = false;
                found++;
            }
        }
        for (int x = 0; x < 10; x++) {
            for (int y = 0; y < 5 && !isLit(x); y++) {
                if (hedge[x][y] >= 10) {
                    hedge[x][y] = Math.min(40, hedge[x][y] + hedge[x][y] / 10);
                }
            }
        }
        night++;
        return seen;
    }
}
