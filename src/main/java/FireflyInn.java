/** An inn behind a hedge of fireflies. */
public final class FireflyInn {
    private static final int WIDTH = 10;
    private static final int HEIGHT = 5;
    private static final int FULL_CELL = 40;
    private static final int ROOM_LIMIT = 6;
    private static final int GUEST_LIMIT = 12;
    private static final int WHISPER_LIMIT = 9;
    private static final int QUIET_WHISPERS = 9;
    private static final int FULL_MOON = 4;
    private static final int JAR_LIMIT = 3;
    private static final int PASS_LIMIT = 60;
    private static final int COMPARE_LIMIT = 30;
    private static final int LAST_CELL_Y = HEIGHT - 1;
    private static final int LAST_COLUMN = WIDTH - 1;
    private static final int LAST_ROOM_WHAT = 4;
    private static final int LAST_GUEST_WHAT = 5;
    private static final int LAST_COUNT_WHAT = 8;
    private static final int LAST_FORESEE_WHAT = 2;
    private static final int NONE = -1;

    private final Inn now;

    // What would be is tried out here, so that no call makes a new inn.
    private final Inn trial;

    public FireflyInn() {
        now = new Inn();
        trial = new Inn();
    }

    // ---- hedge and rooms

    public int swarm(int x, int y, int many) throws IndexOutOfBoundsException, IllegalArgumentException {
        needIndex(x, LAST_COLUMN);
        needIndex(y, LAST_CELL_Y);
        needArgument(many, 0, FULL_CELL);
        int before = now.hedge.at(x, y);
        now.hedge.put(x, y, many);
        return before;
    }

    public int cell(int x, int y) throws IndexOutOfBoundsException {
        needIndex(x, LAST_COLUMN);
        needIndex(y, LAST_CELL_Y);
        return now.hedge.at(x, y);
    }

    public int open(int x) throws IllegalArgumentException, IllegalStateException {
        needArgument(x, 0, LAST_COLUMN);
        if (now.rooms.isFull()) {
            throw new IllegalStateException("all rooms are open");
        }
        return now.rooms.add(x);
    }

    public boolean lamp(int room) throws IndexOutOfBoundsException {
        needRoom(room);
        now.rooms.setBurning(room, !now.rooms.isBurning(room));
        return now.rooms.isBurning(room);
    }

    public int room(int room, int what) throws IndexOutOfBoundsException {
        needRoom(room);
        needIndex(what, LAST_ROOM_WHAT);
        return now.tellRoom(room, what);
    }

    public boolean isLit(int x) throws IndexOutOfBoundsException {
        needIndex(x, LAST_COLUMN);
        return now.rooms.shineOn(x);
    }

    // ---- guests

    public int stay(int room, int whisper, boolean jar)
            throws IndexOutOfBoundsException, IllegalArgumentException, IllegalStateException {
        needRoom(room);
        needArgument(whisper, 0, WHISPER_LIMIT);
        if (now.guests.isFull()) {
            throw new IllegalStateException("no more guests are taken in");
        }
        return now.guests.add(room, whisper, jar);
    }

    public int move(int guest, int room) throws IndexOutOfBoundsException, IllegalStateException {
        needGuest(guest);
        needRoom(room);
        needStaying(guest);
        int before = now.guests.roomOf(guest);
        now.guests.setRoom(guest, room);
        return before;
    }

    public int leave(int guest) throws IndexOutOfBoundsException, IllegalStateException {
        needGuest(guest);
        needStaying(guest);
        now.guests.sendOff(guest);
        return now.guests.sawOf(guest);
    }

    public int hush(int guest, int whisper) throws IndexOutOfBoundsException, IllegalArgumentException {
        needGuest(guest);
        needArgument(whisper, 0, WHISPER_LIMIT);
        int before = now.guests.whisperOf(guest);
        now.guests.setWhisper(guest, whisper);
        return before;
    }

    public int guest(int guest, int what) throws IndexOutOfBoundsException {
        needGuest(guest);
        needIndex(what, LAST_GUEST_WHAT);
        return now.guests.tell(guest, what);
    }

    public int count(int what) throws IndexOutOfBoundsException {
        needIndex(what, LAST_COUNT_WHAT);
        return now.tellCount(what);
    }

    // ---- nights

    public int pass(int nights) throws IllegalArgumentException {
        needArgument(nights, 1, PASS_LIMIT);
        return now.goThrough(nights);
    }

    // ---- what would be

    public int dark(int most) throws IllegalArgumentException {
        needArgument(most, 0, FULL_MOON);
        int ahead = 0;
        while (ahead < Inn.MOON_NIGHTS && Inn.moonLight(now.night + ahead) > most) {
            ahead++;
        }
        return ahead;
    }

    public int foresee(int nights, int what) throws IllegalArgumentException, IndexOutOfBoundsException {
        needArgument(nights, 1, PASS_LIMIT);
        needIndex(what, LAST_FORESEE_WHAT);
        trial.copyFrom(now);
        int seen = trial.goThrough(nights);
        if (what == 0) {
            return seen;
        }
        if (what == 1) {
            return trial.hedge.all();
        }
        return trial.guests.tookInAll() - now.guests.tookInAll();
    }

    public int advise(int nights) throws IllegalArgumentException {
        needArgument(nights, 1, COMPARE_LIMIT);
        trial.copyFrom(now);
        int most = trial.goThrough(nights);
        int best = NONE;
        for (int r = 0; r < ROOM_LIMIT; r++) {
            if (now.rooms.isBurning(r)) {
                int seen = seenWithoutLamp(r, nights);
                if (seen > most) {
                    most = seen;
                    best = r;
                }
            }
        }
        return best;
    }

    public int harm(int nights) throws IllegalArgumentException {
        needArgument(nights, 1, COMPARE_LIMIT);
        trial.copyFrom(now);
        trial.goThrough(nights);
        int most = trial.hedge.all();
        int worst = NONE;
        for (int g = 0; g < GUEST_LIMIT; g++) {
            if (now.guests.hasJar(g)) {
                int left = leftWithoutJar(g, nights);
                if (left > most) {
                    most = left;
                    worst = g;
                }
            }
        }
        return worst;
    }

    public double mean() {
        if (now.guests.many() == 0) {
            return 0.0;
        }
        return (double) now.guests.sawInAll() / (double) now.guests.many();
    }

    public long digest() {
        long d = 1093L;
        for (int what = 0; what <= LAST_COUNT_WHAT; what++) {
            d = d * 31L + now.tellCount(what);
        }
        for (int y = 0; y < HEIGHT; y++) {
            for (int x = 0; x < WIDTH; x++) {
                d = d * 31L + now.hedge.at(x, y);
            }
        }
        for (int r = 0; r < now.rooms.many(); r++) {
            for (int what = 0; what <= LAST_ROOM_WHAT; what++) {
                d = d * 31L + now.tellRoom(r, what);
            }
        }
        for (int g = 0; g < now.guests.many(); g++) {
            for (int what = 0; what <= LAST_GUEST_WHAT; what++) {
                d = d * 31L + now.guests.tell(g, what);
            }
        }
        return d;
    }

    private int seenWithoutLamp(int room, int nights) {
        trial.copyFrom(now);
        trial.rooms.setBurning(room, false);
        return trial.goThrough(nights);
    }

    private int leftWithoutJar(int guest, int nights) {
        trial.copyFrom(now);
        trial.guests.dropJar(guest);
        trial.goThrough(nights);
        return trial.hedge.all();
    }

    private void needRoom(int room) {
        if (!now.rooms.has(room)) {
            throw new IndexOutOfBoundsException("there is no such room");
        }
    }

    private void needGuest(int guest) {
        if (!now.guests.has(guest)) {
            throw new IndexOutOfBoundsException("there is no such guest");
        }
    }

    private void needStaying(int guest) {
        if (!now.guests.isStaying(guest)) {
            throw new IllegalStateException("this guest has left");
        }
    }

    private static void needIndex(int value, int last) {
        if (value < 0 || value > last) {
            throw new IndexOutOfBoundsException("an index is out of its range");
        }
    }

    private static void needArgument(int value, int first, int last) {
        if (value < first || value > last) {
            throw new IllegalArgumentException("an argument is out of its range");
        }
    }

    private static int sum(int[] row) {
        int sum = 0;
        for (int i = 0; i < row.length; i++) {
            sum += row[i];
        }
        return sum;
    }

    private static int countTrue(boolean[] row) {
        int sum = 0;
        for (int i = 0; i < row.length; i++) {
            if (row[i]) {
                sum++;
            }
        }
        return sum;
    }

    /** The cells with their fireflies; beside the hedge there are none, and none get there. */
    private static final class Hedge {
        private final int[] cells = new int[WIDTH * HEIGHT];

        private static boolean isInside(int x, int y) {
            return x >= 0 && x < WIDTH && y >= 0 && y < HEIGHT;
        }

        int at(int x, int y) {
            return isInside(x, y) ? cells[WIDTH * y + x] : 0;
        }

        /** More than a full cell holds are lost. */
        void put(int x, int y, int many) {
            if (isInside(x, y)) {
                cells[WIDTH * y + x] = Math.min(many, FULL_CELL);
            }
        }

        void copyFrom(Hedge other) {
            System.arraycopy(other.cells, 0, cells, 0, WIDTH * HEIGHT);
        }

        int all() {
            return sum(cells);
        }

        int inColumn(int x) {
            int sum = 0;
            for (int y = 0; y < HEIGHT; y++) {
                sum += at(x, y);
            }
            return sum;
        }

        int seenFrom(int window) {
            return inColumn(window - 1) + inColumn(window) + inColumn(window + 1);
        }

        // A lit column only loses and one that is not lit only gains, so that
        // column by column comes to the same as all at once.
        void driveAside(int from, int to) {
            for (int y = 0; y < HEIGHT; y++) {
                int half = at(from, y) / 2;
                put(from, y, at(from, y) - half);
                put(to, y, at(to, y) + half);
            }
        }

        void driveDown(int x) {
            for (int y = LAST_CELL_Y - 1; y >= 0; y--) {
                int falling = Math.min(at(x, y), FULL_CELL - at(x, y + 1));
                put(x, y, at(x, y) - falling);
                put(x, y + 1, at(x, y + 1) + falling);
            }
        }

        int takeUppermost(int x, int most) {
            for (int y = 0; y < HEIGHT; y++) {
                if (at(x, y) > 0) {
                    int taken = Math.min(at(x, y), most);
                    put(x, y, at(x, y) - taken);
                    return taken;
                }
            }
            return 0;
        }

        void grow(int x) {
            for (int y = 0; y < HEIGHT; y++) {
                put(x, y, at(x, y) + at(x, y) / 10);
            }
        }
    }

    /** The rooms by their numbers; in one that is not open yet, no lamp burns. */
    private static final class Rooms {
        private final int[] windows = new int[ROOM_LIMIT];
        private final boolean[] burning = new boolean[ROOM_LIMIT];
        private int many;

        int many() {
            return many;
        }

        boolean isFull() {
            return many >= ROOM_LIMIT;
        }

        boolean has(int room) {
            return room >= 0 && room < many && room < ROOM_LIMIT;
        }

        int add(int window) {
            int room = many;
            if (room >= 0 && room < ROOM_LIMIT) {
                windows[room] = window;
                burning[room] = true;
                many = room + 1;
            }
            return room;
        }

        int windowOf(int room) {
            return has(room) ? windows[room] : NONE;
        }

        boolean isBurning(int room) {
            return has(room) && burning[room];
        }

        void setBurning(int room, boolean burns) {
            if (has(room)) {
                burning[room] = burns;
            }
        }

        int lampsBurning() {
            return countTrue(burning);
        }

        boolean shineOn(int x) {
            for (int r = 0; r < ROOM_LIMIT; r++) {
                if (burning[r] && Math.abs(windows[r] - x) <= 1) {
                    return true;
                }
            }
            return false;
        }

        void copyFrom(Rooms other) {
            for (int r = 0; r < ROOM_LIMIT; r++) {
                windows[r] = other.windows[r];
                burning[r] = other.burning[r];
            }
            many = other.many;
        }
    }

    /** The guests by their numbers; one who has left, or has not come yet, neither stays nor has a jar. */
    private static final class Guests {
        private final int[] rooms = new int[GUEST_LIMIT];
        private final int[] whispers = new int[GUEST_LIMIT];
        private final int[] took = new int[GUEST_LIMIT];
        private final int[] saw = new int[GUEST_LIMIT];
        private final boolean[] jars = new boolean[GUEST_LIMIT];
        private final boolean[] staying = new boolean[GUEST_LIMIT];
        private int many;

        int many() {
            return many;
        }

        boolean isFull() {
            return many >= GUEST_LIMIT;
        }

        boolean has(int guest) {
            return guest >= 0 && guest < many && guest < GUEST_LIMIT;
        }

        int add(int room, int whisper, boolean jar) {
            int guest = many;
            if (guest >= 0 && guest < GUEST_LIMIT) {
                rooms[guest] = room;
                whispers[guest] = whisper;
                jars[guest] = jar;
                staying[guest] = true;
                many = guest + 1;
            }
            return guest;
        }

        boolean isStaying(int guest) {
            return has(guest) && staying[guest];
        }

        boolean hasJar(int guest) {
            return has(guest) && jars[guest];
        }

        int roomOf(int guest) {
            return has(guest) ? rooms[guest] : NONE;
        }

        int whisperOf(int guest) {
            return has(guest) ? whispers[guest] : 0;
        }

        int tookOf(int guest) {
            return has(guest) ? took[guest] : 0;
        }

        int sawOf(int guest) {
            return has(guest) ? saw[guest] : 0;
        }

        void setRoom(int guest, int room) {
            if (has(guest)) {
                rooms[guest] = room;
            }
        }

        void setWhisper(int guest, int whisper) {
            if (has(guest)) {
                whispers[guest] = whisper;
            }
        }

        void dropJar(int guest) {
            if (has(guest)) {
                jars[guest] = false;
            }
        }

        void sendOff(int guest) {
            if (has(guest)) {
                staying[guest] = false;
                jars[guest] = false;
            }
        }

        void addSeen(int guest, int seen) {
            if (has(guest)) {
                saw[guest] += seen;
            }
        }

        void addTaken(int guest, int taken) {
            if (has(guest)) {
                took[guest] += taken;
            }
        }

        int tell(int guest, int what) {
            switch (what) {
                case 0: return roomOf(guest);
                case 1: return whisperOf(guest);
                case 2: return hasJar(guest) ? 1 : 0;
                case 3: return tookOf(guest);
                case 4: return sawOf(guest);
                default: return isStaying(guest) ? 0 : 1;
            }
        }

        int stayingInAll() {
            return countTrue(staying);
        }

        int jarsInAll() {
            return countTrue(jars);
        }

        int tookInAll() {
            return sum(took);
        }

        int sawInAll() {
            return sum(saw);
        }

        int stayingIn(int room) {
            int sum = 0;
            for (int g = 0; g < GUEST_LIMIT; g++) {
                if (staying[g] && rooms[g] == room) {
                    sum++;
                }
            }
            return sum;
        }

        int whispersIn(int room) {
            int sum = 0;
            for (int g = 0; g < GUEST_LIMIT; g++) {
                if (staying[g] && rooms[g] == room) {
                    sum += whispers[g];
                }
            }
            return sum;
        }

        int jarsIn(int room) {
            int sum = 0;
            for (int g = 0; g < GUEST_LIMIT; g++) {
                if (jars[g] && rooms[g] == room) {
                    sum++;
                }
            }
            return sum;
        }

        void dropJarsIn(int room) {
            for (int g = 0; g < GUEST_LIMIT; g++) {
                if (rooms[g] == room) {
                    jars[g] = false;
                }
            }
        }

        void copyFrom(Guests other) {
            for (int g = 0; g < GUEST_LIMIT; g++) {
                rooms[g] = other.rooms[g];
                whispers[g] = other.whispers[g];
                took[g] = other.took[g];
                saw[g] = other.saw[g];
                jars[g] = other.jars[g];
                staying[g] = other.staying[g];
            }
            many = other.many;
        }
    }

    /** The inn as a whole, and how its nights go. */
    private static final class Inn {
        private static final int MOON_NIGHTS = 8;

        private final Hedge hedge = new Hedge();
        private final Rooms rooms = new Rooms();
        private final Guests guests = new Guests();
        private final boolean[] lit = new boolean[WIDTH];
        private int night;
        private int found;

        // The mask keeps the light at 0 to 4 for every int, so that
        // what is seen can always be divided by one more.
        static int moonLight(int night) {
            int phase = night & (MOON_NIGHTS - 1);
            return phase <= FULL_MOON ? phase : MOON_NIGHTS - phase;
        }

        void copyFrom(Inn other) {
            hedge.copyFrom(other.hedge);
            rooms.copyFrom(other.rooms);
            guests.copyFrom(other.guests);
            night = other.night;
            found = other.found;
        }

        int tellRoom(int room, int what) {
            switch (what) {
                case 0: return rooms.windowOf(room);
                case 1: return rooms.isBurning(room) ? 1 : 0;
                case 2: return guests.stayingIn(room);
                case 3: return guests.whispersIn(room);
                default: return guests.jarsIn(room);
            }
        }

        int tellCount(int what) {
            switch (what) {
                case 0: return night;
                case 1: return moonLight(night);
                case 2: return hedge.all();
                case 3: return rooms.many();
                case 4: return rooms.lampsBurning();
                case 5: return guests.stayingInAll();
                case 6: return guests.jarsInAll();
                case 7: return found;
                default: return litColumns();
            }
        }

        int litColumns() {
            int sum = 0;
            for (int x = 0; x < WIDTH; x++) {
                if (rooms.shineOn(x)) {
                    sum++;
                }
            }
            return sum;
        }

        void lookAtLamps() {
            for (int x = 0; x < WIDTH; x++) {
                lit[x] = rooms.shineOn(x);
            }
        }

        /** Returns what all guests see in these nights. */
        int goThrough(int nights) {
            int seen = 0;
            lookAtLamps();
            for (int n = 0; n < nights; n++) {
                driveByLamps();
                driveByWhispers();
                seen += lookOut();
                fillJars();
                searchJars();
                growInTheDark();
                night++;
            }
            return seen;
        }

        void driveByLamps() {
            for (int x = 0; x < WIDTH; x++) {
                if (lit[x] && isDarkColumn(x - 1)) {
                    hedge.driveAside(x, x - 1);
                } else if (lit[x] && isDarkColumn(x + 1)) {
                    hedge.driveAside(x, x + 1);
                }
            }
        }

        boolean isDarkColumn(int x) {
            return x >= 0 && x < WIDTH && !lit[x];
        }

        void driveByWhispers() {
            for (int r = 0; r < ROOM_LIMIT; r++) {
                if (guests.whispersIn(r) > QUIET_WHISPERS) {
                    hedge.driveDown(rooms.windowOf(r));
                }
            }
        }

        int lookOut() {
            int light = moonLight(night);
            int sum = 0;
            for (int g = 0; g < GUEST_LIMIT && light < FULL_MOON; g++) {
                int room = guests.roomOf(g);
                if (guests.isStaying(g) && !rooms.isBurning(room)) {
                    int seen = hedge.seenFrom(rooms.windowOf(room)) / (light + 1);
                    guests.addSeen(g, seen);
                    sum += seen;
                }
            }
            return sum;
        }

        void fillJars() {
            for (int g = 0; g < GUEST_LIMIT; g++) {
                if (guests.hasJar(g)) {
                    int window = rooms.windowOf(guests.roomOf(g));
                    guests.addTaken(g, hedge.takeUppermost(window, JAR_LIMIT));
                }
            }
        }

        void searchJars() {
            if (rooms.many() > 0) {
                int room = night % rooms.many();
                found += guests.jarsIn(room);
                guests.dropJarsIn(room);
            }
        }

        void growInTheDark() {
            for (int x = 0; x < WIDTH; x++) {
                if (isDarkColumn(x)) {
                    hedge.grow(x);
                }
            }
        }
    }
}
