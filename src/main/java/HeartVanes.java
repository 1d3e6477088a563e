/** A room of people who wear vanes for the heart; ../shared/DOC.md says what each call must answer. */
public final class HeartVanes {
    public static final int BAD = -1, NO = -2, FULL = -3, NONE = -4;

    private static final String FIRST_TEXT = "r7,6;p0,0,0;p1,6,5;p2,3,2;p3,5,1;p0,1,4;p0,4,4;l0,1,0,5;l0,2,1,2;l1,0,0,9;l1,4,0,3;l2,3,0,7;l3,2,0,4;l3,5,1,6;l4,5,0,8;l5,4,0,2;l5,0,0,9;";

    private static final int LOWEST_LETTER = 32;
    private static final int HIGHEST_LETTER = 126;
    private static final int MOST_LETTERS = 200;
    private static final int MOST_PEOPLE = 6;
    private static final int LONGEST_WALL = 9;
    private static final int WALL_WITHOUT_TELLING = 6;
    private static final int MOST_PLACES = LONGEST_WALL * LONGEST_WALL;
    private static final int MOST_LEANING = 20;
    private static final int OUT_OF_FEELING = 12;
    private static final int FELT_SHIFT = 10000;
    private static final int MOST_HOURS_AT_ONCE = 24;
    private static final int MOST_HOURS_BEHIND = 40;
    private static final int MOST_HOURS_TO_SETTLE = 20;
    private static final int MOST_HOURS_SEEN = 20;
    private static final int MOST_HOURS_OF_EVENING = 60;
    private static final int HIGHEST_EVENING = 9999;
    private static final int MOST_UNDONE = 8;
    private static final int MOST_SEEN = 6;
    private static final int MOST_KEPT = 2;
    private static final int TENTHS = 10;

    private static final int WAYS = 8;
    private static final int PLAIN = 0;
    private static final int STIFF = 1;
    private static final int MILL = 2;
    private static final int SHAM = 3;
    private static final int KINDS = 4;
    private static final int SIDES = 4;
    private static final int[] EAST_BY_SIDE = {0, 1, 0, -1};
    private static final int[] SOUTH_BY_SIDE = {-1, 0, 1, 0};

    private final Text text;
    private final Reader reader;
    private final Room room;
    /** Where "what if" is tried, so that no question changes the room itself. */
    private final Room trial;
    private final Past past;
    private final Sights sights;
    private final Search search;
    private final Couples couples;
    private final Room[] kept;
    private int keptCount;

    public HeartVanes() {
        text = new Text();
        reader = new Reader();
        room = new Room();
        trial = new Room();
        past = new Past();
        sights = new Sights();
        search = new Search();
        couples = new Couples();
        kept = new Room[MOST_KEPT];
        for (int i = 0; i < MOST_KEPT; i++) {
            kept[i] = new Room();
        }
        keptCount = 0;
        for (int i = 0; i < FIRST_TEXT.length(); i++) {
            text.append(FIRST_TEXT.charAt(i));
        }
        reader.readInto(room, text);
        text.clear();
    }

    // ---- rooms

    public int write(int letter) {
        if (letter < LOWEST_LETTER || letter > HIGHEST_LETTER) {
            return BAD;
        }
        if (text.length >= MOST_LETTERS) {
            return FULL;
        }
        text.append(letter);
        return text.length;
    }

    public int wipe() {
        int was = text.length;
        text.clear();
        return was;
    }

    public int fault() {
        return reader.readInto(trial, text);
    }

    public int lay() {
        if (reader.readInto(trial, text) != NONE || trial.people < 1) {
            return NO;
        }
        room.copyFrom(trial);
        past.clear();
        sights.clear();
        keptCount = 0;
        return room.people;
    }

    public int person(int p, int what) {
        if (!room.has(p)) {
            return BAD;
        }
        switch (what) {
            case 0: return room.kind[p];
            case 1: return room.x[p];
            case 2: return room.y[p];
            case 3: return room.vane[p];
            case 4: return room.draft(p);
            case 5: return room.feltEast(p, Room.EVERYBODY) + FELT_SHIFT;
            case 6: return room.feltSouth(p, Room.EVERYBODY) + FELT_SHIFT;
            default: return BAD;
        }
    }

    public int leaning(int a, int b) {
        if (!room.hasTwo(a, b)) {
            return BAD;
        }
        return room.leaningOf(a, b) + MOST_LEANING;
    }

    public int place(int x, int y) {
        if (!room.reaches(x, y)) {
            return BAD;
        }
        return room.whoIsAt(x, y);
    }

    // ---- acts

    public int pass(int n) {
        if (n < 1 || n > MOST_HOURS_AT_ONCE) {
            return BAD;
        }
        past.remember(room);
        for (int i = 0; i < n; i++) {
            room.passHour();
        }
        return room.hours;
    }

    public int walk(int p, int side) {
        if (!room.has(p) || !isBelow(side, SIDES)) {
            return BAD;
        }
        if (!room.canStep(p, side)) {
            return NO;
        }
        past.remember(room);
        room.step(p, side);
        return placeNumber(room.x[p], room.y[p]);
    }

    public int lean(int a, int b, int l) {
        if (!room.hasTwo(a, b) || l < -MOST_LEANING || l > MOST_LEANING) {
            return BAD;
        }
        past.remember(room);
        int was = room.leaningOf(a, b);
        room.setLeaning(a, b, l);
        return was + MOST_LEANING;
    }

    public int undo() {
        if (past.size < 1) {
            return NO;
        }
        past.restoreLatest(room);
        return past.size;
    }

    // ---- what they tell

    public int toward(int p) {
        if (!room.has(p)) {
            return BAD;
        }
        int bits = 0;
        for (int q = 0; q < room.people; q++) {
            if (room.tellsToward(p, q)) {
                bits |= 1 << q;
            }
        }
        return bits;
    }

    public int looked(int what) {
        if (!isBelow(what, 2)) {
            return BAD;
        }
        int which = 0;
        int most = 0;
        for (int q = 0; q < room.people; q++) {
            int lookers = room.lookersAt(q);
            if (lookers > most) {
                which = q;
                most = lookers;
            }
        }
        return what == 0 ? which : most;
    }

    public int behind(int n, int p) {
        if (n < 0 || n > MOST_HOURS_BEHIND || !room.has(p)) {
            return BAD;
        }
        return toldBehind(room.kind[p], room.vane[p], room.draft(p), n);
    }

    public int settled() {
        trial.copyFrom(room);
        for (int n = 0; n <= MOST_HOURS_TO_SETTLE; n++) {
            if (trial.passHour() == 0) {
                return n;
            }
        }
        return NONE;
    }

    public int steps(int p, int w, int k) {
        if (!room.has(p) || !isBelow(w, WAYS) || k < -1) {
            return BAD;
        }
        trial.copyFrom(room);
        search.run(trial, p, w);
        return k == -1 ? search.length : search.sideAt(k);
    }

    public int stand(int p, int q, int w, int what) {
        if (!room.hasTwo(p, q) || !isBelow(w, WAYS) || !isBelow(what, 2)) {
            return BAD;
        }
        int many = 0;
        int first = NONE;
        trial.copyFrom(room);
        for (int x = 0; x < room.width; x++) {
            for (int y = 0; y < room.depth; y++) {
                if (!room.isFreeFor(p, x, y)) {
                    continue;
                }
                trial.put(p, x, y);
                if (trial.draft(q) == w) {
                    first = many == 0 ? placeNumber(x, y) : first;
                    many++;
                }
            }
        }
        return what == 0 ? many : first;
    }

    public int marry(int p) {
        if (p != -1 && !room.has(p)) {
            return BAD;
        }
        if (!couples.find(room)) {
            return NONE;
        }
        return p == -1 ? couples.together(room) : couples.mate[p];
    }

    // ---- what was seen

    public int see(int p, int n, int w) {
        if (!room.has(p) || n < 0 || n > MOST_HOURS_SEEN || !isBelow(w, WAYS)) {
            return BAD;
        }
        if (sights.size >= MOST_SEEN) {
            return FULL;
        }
        sights.add(p, n, w);
        return sights.size;
    }

    public int forget() {
        int were = sights.size;
        sights.clear();
        return were;
    }

    public int kinds(int p) {
        if (!room.has(p)) {
            return BAD;
        }
        int bits = 0;
        int draft = room.draft(p);
        for (int kind = 0; kind < KINDS; kind++) {
            if (sights.wouldHold(p, kind, room.vane[p], draft)) {
                bits |= 1 << kind;
            }
        }
        return bits;
    }

    public int loves(int p, int w) {
        if (!room.has(p) || !isBelow(w, WAYS)) {
            return BAD;
        }
        int bits = 0;
        trial.copyFrom(room);
        for (int q = 0; q < room.people; q++) {
            if (q == p) {
                continue;
            }
            trial.leanTowardAlone(p, q);
            if (trial.draft(p) == w) {
                bits |= 1 << q;
            }
        }
        return bits;
    }

    // ---- away, evenings

    public int away(int p, int w, int x, int part) {
        if (!room.has(p) || !isBelow(w, WAYS) || x < 0 || x > TENTHS || !isBelow(part, 2)) {
            return BAD;
        }
        int above = 0;
        int below = 0;
        for (int present = 0; present < 1 << room.people; present++) {
            if ((present >> p & 1) == 0) {
                continue;
            }
            int weight = weightOf(present, p, x);
            below += weight;
            if (room.draftAmong(p, present) == w) {
                above += weight;
            }
        }
        int shared = greatestShared(above, below);
        if (shared < 1) {
            return NONE;
        }
        return (part == 0 ? above : below) / shared;
    }

    public int evening(int z, int n, int what) {
        if (z < 0 || z > HIGHEST_EVENING || n < 1 || n > MOST_HOURS_OF_EVENING || !isBelow(what, 2)) {
            return BAD;
        }
        trial.copyFrom(room);
        int turned = 0;
        for (int k = 0; k < n; k++) {
            trial.actBy(drawFor(z, k));
            turned += trial.passHour();
        }
        return what == 0 ? trial.sumOfVanes() : turned;
    }

    public int keep() {
        if (keptCount >= MOST_KEPT) {
            return FULL;
        }
        kept[keptCount].copyFrom(room);
        keptCount++;
        return keptCount;
    }

    public int back() {
        if (keptCount < 1) {
            return NO;
        }
        keptCount--;
        room.copyFrom(kept[keptCount]);
        past.clear();
        return keptCount;
    }

    public int count(int what) {
        switch (what) {
            case 0: return room.width;
            case 1: return room.depth;
            case 2: return room.people;
            case 3: return room.hours;
            case 4: return room.howManyFeelADraft();
            case 5: return room.howManyLeanings();
            case 6: return sights.size;
            case 7: return past.size;
            case 8: return keptCount;
            case 9: return text.length;
            default: return BAD;
        }
    }

    // ---- numbers

    private static boolean isBelow(int number, int bound) {
        return number >= 0 && number < bound;
    }

    private static int placeNumber(int x, int y) {
        return 10 * x + y;
    }

    /** How many of ten to the power of the others' number fall on just these being present. */
    private int weightOf(int present, int p, int x) {
        int weight = 1;
        for (int q = 0; q < room.people; q++) {
            if (q != p) {
                weight *= (present >> q & 1) == 1 ? TENTHS - x : x;
            }
        }
        return weight;
    }

    private static int greatestShared(int a, int b) {
        int high = a;
        int low = b;
        // Euclid's rests halve every second time, so 64 is more than ints can need
        for (int i = 0; i < 64 && low != 0; i++) {
            int rest = high % low;
            high = low;
            low = rest;
        }
        return high;
    }

    private static int drawFor(int z, int k) {
        // the square passes an int's bound
        long x = 7919L * z + 6151L * k + 1;
        return (int) (x * x % 65521);
    }

    private static int wayBy(int east, int south) {
        int toEast = Math.abs(east);
        int toSouth = Math.abs(south);
        if (toEast == 0 && toSouth == 0) {
            return NONE;
        }
        if (toEast > 2 * toSouth) {
            return east > 0 ? 2 : 6;
        }
        if (toSouth > 2 * toEast) {
            return south > 0 ? 4 : 0;
        }
        if (east > 0) {
            return south > 0 ? 3 : 1;
        }
        return south > 0 ? 5 : 7;
    }

    private static int toldNext(int kind, int told, int draft) {
        if (kind == MILL) {
            return (told + 1) % WAYS;
        }
        if (draft == NONE) {
            return told;
        }
        switch (kind) {
            case PLAIN: return draft;
            case STIFF: return turnedOneToward(told, draft);
            case SHAM: return (draft + WAYS / 2) % WAYS;
            default: return told;
        }
    }

    /** No draft hangs on a vane, so it stays the same through hours in which nobody walks. */
    private static int toldBehind(int kind, int toldNow, int draft, int n) {
        int told = toldNow;
        for (int i = 0; i < n; i++) {
            told = toldNext(kind, told, draft);
        }
        return told;
    }

    private static int turnedOneToward(int told, int draft) {
        int toTheRight = (draft - told + WAYS) % WAYS;
        if (toTheRight == 0) {
            return told;
        }
        return toTheRight <= WAYS / 2 ? (told + 1) % WAYS : (told + WAYS - 1) % WAYS;
    }

    /** All that acts change, so that undoing and keeping are copies of it. */
    private static final class Room {
        static final int EVERYBODY = (1 << MOST_PEOPLE) - 1;

        final int[] kind = new int[MOST_PEOPLE];
        final int[] x = new int[MOST_PEOPLE];
        final int[] y = new int[MOST_PEOPLE];
        final int[] vane = new int[MOST_PEOPLE];
        private final int[] leanings = new int[MOST_PEOPLE * MOST_PEOPLE];
        int width = WALL_WITHOUT_TELLING;
        int depth = WALL_WITHOUT_TELLING;
        int people = 0;
        int hours = 0;

        void clear() {
            width = WALL_WITHOUT_TELLING;
            depth = WALL_WITHOUT_TELLING;
            people = 0;
            hours = 0;
            for (int i = 0; i < leanings.length; i++) {
                leanings[i] = 0;
            }
        }

        void copyFrom(Room other) {
            width = other.width;
            depth = other.depth;
            people = other.people;
            hours = other.hours;
            System.arraycopy(other.kind, 0, kind, 0, MOST_PEOPLE);
            System.arraycopy(other.x, 0, x, 0, MOST_PEOPLE);
            System.arraycopy(other.y, 0, y, 0, MOST_PEOPLE);
            System.arraycopy(other.vane, 0, vane, 0, MOST_PEOPLE);
            System.arraycopy(other.leanings, 0, leanings, 0, MOST_PEOPLE * MOST_PEOPLE);
        }

        boolean has(int p) {
            return isBelow(p, people);
        }

        boolean hasTwo(int a, int b) {
            return has(a) && has(b) && a != b;
        }

        boolean reaches(int atX, int atY) {
            return isBelow(atX, width) && isBelow(atY, depth);
        }

        int whoIsAt(int atX, int atY) {
            for (int p = 0; p < people; p++) {
                if (x[p] == atX && y[p] == atY) {
                    return p;
                }
            }
            return NONE;
        }

        boolean isFreeFor(int p, int atX, int atY) {
            int who = whoIsAt(atX, atY);
            return who == NONE || who == p;
        }

        void add(int newKind, int atX, int atY) {
            if (people >= MOST_PEOPLE) {
                return;
            }
            kind[people] = newKind;
            vane[people] = 0;
            x[people] = atX;
            y[people] = atY;
            people++;
        }

        void put(int p, int atX, int atY) {
            x[p] = atX;
            y[p] = atY;
        }

        boolean canStep(int p, int side) {
            int atX = x[p] + EAST_BY_SIDE[side];
            int atY = y[p] + SOUTH_BY_SIDE[side];
            return reaches(atX, atY) && whoIsAt(atX, atY) == NONE;
        }

        void step(int p, int side) {
            put(p, x[p] + EAST_BY_SIDE[side], y[p] + SOUTH_BY_SIDE[side]);
        }

        int leaningOf(int a, int b) {
            return leanings[MOST_PEOPLE * a + b];
        }

        void setLeaning(int a, int b, int l) {
            leanings[MOST_PEOPLE * a + b] = l;
        }

        void leanTowardAlone(int p, int q) {
            for (int other = 0; other < people; other++) {
                setLeaning(p, other, other == q ? 1 : 0);
            }
        }

        private int pull(int p, int q) {
            int far = Math.abs(x[q] - x[p]) + Math.abs(y[q] - y[p]);
            return far >= OUT_OF_FEELING ? 0 : leaningOf(p, q) * (OUT_OF_FEELING - far);
        }

        int feltEast(int p, int present) {
            int sum = 0;
            for (int q = 0; q < people; q++) {
                if (q != p && (present >> q & 1) == 1) {
                    sum += pull(p, q) * (x[q] - x[p]);
                }
            }
            return sum;
        }

        int feltSouth(int p, int present) {
            int sum = 0;
            for (int q = 0; q < people; q++) {
                if (q != p && (present >> q & 1) == 1) {
                    sum += pull(p, q) * (y[q] - y[p]);
                }
            }
            return sum;
        }

        int draftAmong(int p, int present) {
            return wayBy(feltEast(p, present), feltSouth(p, present));
        }

        int draft(int p) {
            return draftAmong(p, EVERYBODY);
        }

        /** One HOUR; answers how many vanes tell otherwise by it. No draft hangs on a vane, so each may turn at once. */
        int passHour() {
            int turned = 0;
            for (int p = 0; p < people; p++) {
                int next = toldNext(kind[p], vane[p], draft(p));
                if (next != vane[p]) {
                    turned++;
                }
                vane[p] = next;
            }
            hours++;
            return turned;
        }

        void actBy(int draw) {
            if (people < 1) {
                return;
            }
            int p = draw / 8 % people;
            int deed = draw % 8;
            if (deed < 4) {
                int side = draw / 64 % SIDES;
                if (canStep(p, side)) {
                    step(p, side);
                }
            } else if (deed == 4) {
                int q = draw / 64 % people;
                if (q != p) {
                    setLeaning(p, q, draw / 512 % (2 * MOST_LEANING + 1) - MOST_LEANING);
                }
            }
        }

        boolean tellsToward(int p, int q) {
            return p != q && wayBy(x[q] - x[p], y[q] - y[p]) == vane[p];
        }

        int lookersAt(int q) {
            int lookers = 0;
            for (int p = 0; p < people; p++) {
                if (tellsToward(p, q)) {
                    lookers++;
                }
            }
            return lookers;
        }

        int sumOfVanes() {
            int sum = 0;
            for (int p = 0; p < people; p++) {
                sum += vane[p];
            }
            return sum;
        }

        int howManyFeelADraft() {
            int many = 0;
            for (int p = 0; p < people; p++) {
                if (draft(p) != NONE) {
                    many++;
                }
            }
            return many;
        }

        int howManyLeanings() {
            int many = 0;
            for (int i = 0; i < leanings.length; i++) {
                if (leanings[i] != 0) {
                    many++;
                }
            }
            return many;
        }
    }

    private static final class Text {
        private final int[] letters = new int[MOST_LETTERS];
        int length = 0;

        void append(int letter) {
            if (length < MOST_LETTERS) {
                letters[length] = letter;
                length++;
            }
        }

        void clear() {
            length = 0;
        }

        /** NONE behind the end, so that a reader needs no bound of its own. */
        int letterAt(int at) {
            return isBelow(at, length) ? letters[at] : NONE;
        }

        boolean isFigure(int at) {
            int letter = letterAt(at);
            return letter >= '0' && letter <= '9';
        }
    }

    /** Lays a text into a room, ITEM by ITEM. */
    private static final class Reader {
        private static final int MOST_NUMBERS = 4;

        private final int[] number = new int[MOST_NUMBERS];

        /** Answers the first fault's place, or NONE; the room holds what stands ahead of the fault. */
        int readInto(Room target, Text text) {
            target.clear();
            boolean onlyRooms = true;
            int at = 0;
            for (int i = 0; i < MOST_LETTERS && at < text.length; i++) {
                int letter = text.letterAt(at);
                int behindItem = readNumbers(text, at + 1, numbersOf(letter));
                if (behindItem == NONE || letter == 'r' && !onlyRooms || !take(target, letter)) {
                    return at;
                }
                onlyRooms = letter == 'r';
                at = behindItem;
            }
            return NONE;
        }

        private static int numbersOf(int letter) {
            switch (letter) {
                case 'r': return 2;
                case 'p': return 3;
                case 'l': return 4;
                default: return 0;
            }
        }

        /** Answers the place behind the ; of so many numbers, or NONE. */
        private int readNumbers(Text text, int from, int wanted) {
            if (wanted < 1 || wanted > MOST_NUMBERS) {
                return NONE;
            }
            int at = from;
            for (int i = 0; i < wanted; i++) {
                if (!text.isFigure(at)) {
                    return NONE;
                }
                int value = text.letterAt(at) - '0';
                at++;
                if (text.isFigure(at)) {
                    value = 10 * value + text.letterAt(at) - '0';
                    at++;
                }
                if (text.letterAt(at) != (i + 1 < wanted ? ',' : ';')) {
                    return NONE;
                }
                number[i] = value;
                at++;
            }
            return at;
        }

        private boolean take(Room target, int letter) {
            switch (letter) {
                case 'r': return takeWalls(target);
                case 'p': return takePerson(target);
                case 'l': return takeLeaning(target);
                default: return false;
            }
        }

        private boolean takeWalls(Room target) {
            if (number[0] < 1 || number[0] > LONGEST_WALL || number[1] < 1 || number[1] > LONGEST_WALL) {
                return false;
            }
            target.width = number[0];
            target.depth = number[1];
            return true;
        }

        private boolean takePerson(Room target) {
            if (target.people >= MOST_PEOPLE || number[0] >= KINDS || !target.reaches(number[1], number[2])) {
                return false;
            }
            if (target.whoIsAt(number[1], number[2]) != NONE) {
                return false;
            }
            target.add(number[0], number[1], number[2]);
            return true;
        }

        private boolean takeLeaning(Room target) {
            if (!target.hasTwo(number[0], number[1]) || number[2] > 1 || number[3] > MOST_LEANING) {
                return false;
            }
            target.setLeaning(number[0], number[1], number[2] == 0 ? number[3] : -number[3]);
            return true;
        }
    }

    /** How the room stood ahead of the latest acts, in a ring. */
    private static final class Past {
        private final Room[] earlier = new Room[MOST_UNDONE];
        private int next = 0;
        int size = 0;

        Past() {
            for (int i = 0; i < MOST_UNDONE; i++) {
                earlier[i] = new Room();
            }
        }

        void clear() {
            size = 0;
        }

        void remember(Room room) {
            earlier[next].copyFrom(room);
            next = (next + 1) % MOST_UNDONE;
            size = Math.min(size + 1, MOST_UNDONE);
        }

        void restoreLatest(Room room) {
            if (size < 1) {
                return;
            }
            next = (next + MOST_UNDONE - 1) % MOST_UNDONE;
            room.copyFrom(earlier[next]);
            size--;
        }
    }

    /** What is SEEN. */
    private static final class Sights {
        private final int[] who = new int[MOST_SEEN];
        private final int[] hoursBehind = new int[MOST_SEEN];
        private final int[] way = new int[MOST_SEEN];
        int size = 0;

        void clear() {
            size = 0;
        }

        void add(int p, int n, int w) {
            if (size >= MOST_SEEN) {
                return;
            }
            who[size] = p;
            hoursBehind[size] = n;
            way[size] = w;
            size++;
        }

        boolean wouldHold(int p, int kind, int toldNow, int draft) {
            for (int i = 0; i < size; i++) {
                if (who[i] == p && toldBehind(kind, toldNow, draft, hoursBehind[i]) != way[i]) {
                    return false;
                }
            }
            return true;
        }
    }

    /**
     * The fewest walks of one person to a told draft. Places are looked at in the order in which they are found,
     * sides in theirs, so of rows of one length the first is found first.
     */
    private static final class Search {
        private final int[] found = new int[MOST_PLACES];
        private final int[] cameFrom = new int[MOST_PLACES];
        private final int[] bySide = new int[MOST_PLACES];
        private final int[] distance = new int[MOST_PLACES];
        private final int[] row = new int[MOST_PLACES];
        int length = NONE;

        /** Moves p about in the room that it is given. */
        void run(Room trial, int p, int w) {
            for (int i = 0; i < MOST_PLACES; i++) {
                distance[i] = NONE;
            }
            length = NONE;
            found[0] = trial.x[p] * LONGEST_WALL + trial.y[p];
            distance[found[0]] = 0;
            int foundCount = 1;
            for (int i = 0; i < foundCount && i < MOST_PLACES; i++) {
                int here = found[i];
                goTo(trial, p, here);
                if (trial.draft(p) == w) {
                    noteRow(here);
                    return;
                }
                foundCount = findNext(trial, p, here, foundCount);
            }
        }

        int sideAt(int k) {
            return isBelow(k, length) ? row[k] : NONE;
        }

        private static void goTo(Room trial, int p, int spot) {
            trial.put(p, spot / LONGEST_WALL, spot % LONGEST_WALL);
        }

        private int findNext(Room trial, int p, int here, int foundBefore) {
            int foundCount = foundBefore;
            for (int side = 0; side < SIDES; side++) {
                if (!trial.canStep(p, side)) {
                    continue;
                }
                int there = here + EAST_BY_SIDE[side] * LONGEST_WALL + SOUTH_BY_SIDE[side];
                if (isBelow(there, MOST_PLACES) && distance[there] == NONE && foundCount < MOST_PLACES) {
                    distance[there] = distance[here] + 1;
                    cameFrom[there] = here;
                    bySide[there] = side;
                    found[foundCount] = there;
                    foundCount++;
                }
            }
            return foundCount;
        }

        private void noteRow(int end) {
            length = distance[end];
            int spot = end;
            for (int i = length - 1; i >= 0; i--) {
                row[i] = bySide[spot];
                spot = cameFrom[spot];
            }
        }
    }

    /** Who should marry whom: the first way by which no two would leave. */
    private static final class Couples {
        final int[] mate = new int[MOST_PEOPLE];

        boolean find(Room room) {
            for (int p = 0; p < MOST_PEOPLE; p++) {
                mate[p] = NONE;
            }
            return pairFrom(room, mate, 0);
        }

        int together(Room room) {
            int many = 0;
            for (int p = 0; p < room.people; p++) {
                if (mate[p] != NONE) {
                    many++;
                }
            }
            return many;
        }

        /** The people below p are settled; p tries each one above it who is free, the lowest first, then staying alone. */
        private static boolean pairFrom(Room room, int[] mate, int p) {
            if (p >= room.people || p >= MOST_PEOPLE) {
                return nobodyWouldLeave(room, mate);
            }
            if (mate[p] != NONE) {
                return pairFrom(room, mate, p + 1);
            }
            for (int q = p + 1; q < room.people; q++) {
                if (mate[q] != NONE || room.leaningOf(p, q) <= 0 || room.leaningOf(q, p) <= 0) {
                    continue;
                }
                mate[p] = q;
                mate[q] = p;
                if (pairFrom(room, mate, p + 1)) {
                    return true;
                }
                mate[p] = NONE;
                mate[q] = NONE;
            }
            return pairFrom(room, mate, p + 1);
        }

        private static boolean nobodyWouldLeave(Room room, int[] mate) {
            for (int p = 0; p < room.people; p++) {
                for (int q = p + 1; q < room.people; q++) {
                    if (mate[p] != q && wouldRather(room, mate, p, q) && wouldRather(room, mate, q, p)) {
                        return false;
                    }
                }
            }
            return true;
        }

        private static boolean wouldRather(Room room, int[] mate, int p, int q) {
            int now = mate[p] == NONE ? 0 : room.leaningOf(p, mate[p]);
            return room.leaningOf(p, q) > now;
        }
    }
}
