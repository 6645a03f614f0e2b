/**
 * A room with fewer chairs than names: versions of values sit on chairs, orders make new ones later,
 * and names that find no free chair send out the version that was used longest ago.
 *
 * Every change is tried on a spare room first, so that a call that fails leaves no trace.
 */
public final class ChairNames {
    /** An argument is out of its range, or there is no such name, chair, order or mark. */
    public static final int INVALID_ARGUMENT = -1;
    /** The call is not possible in the present state. */
    public static final int NOT_POSSIBLE = -2;
    /** A fixed limit has been reached. */
    public static final int LIMIT_REACHED = -3;
    /** There is no such value. */
    public static final int NOT_FOUND = -4;

    private static final int NAMES = 8;
    private static final int FEWEST_CHAIRS = 3;
    private static final int FIRST_CHAIRS = 5;
    private static final int MOST_CHAIRS = 7;
    private static final int MOST_ORDERS = 6;
    private static final int MOST_MARKS = 3;
    private static final int MOST_STATES = 4;
    private static final int MOST_SIGNS = 80;
    private static final int MOST_WORDS = 3;
    private static final int MOST_DIGITS = 4;
    private static final int MOST_VALUE = 9999;
    private static final int VALUES = 10000;
    private static final int MOST_TICKS = 99;
    private static final int LAST_TIME = 50000;

    private static final int SETTINGS = 4;
    private static final int SHORT_TICKS = 0;
    private static final int MUL_TICKS = 1;
    private static final int SITTING_TICKS = 2;
    private static final int BEGINS_IN_A_TICK = 3;

    private static final int ADD = 0;
    private static final int SUB = 1;
    private static final int MUL = 2;

    /** The commands of a text; the first three have the numbers of the orders. */
    private static final int PUT = 3;
    private static final int COPY = 4;
    private static final int TICK = 5;
    private static final int MARK = 6;
    private static final int KEEP = 7;
    private static final int BACK = 8;
    private static final int COMMANDS = 9;

    /** No name, chair, position or command. */
    private static final int NONE = -1;
    /** A time that no room reaches: of a version whose order has not begun. */
    private static final int NEVER = 1000000;
    /** Far more ticks than six orders, one behind the other, can take. */
    private static final int FORECAST_TICKS = 1000;

    private static final int BAD_FORM = 1;
    private static final int BAD_COMMAND = 2;

    private Room room = new Room();
    private Room trial = new Room();
    private final Room[] history = new Room[MOST_STATES];
    private int states = 0;
    private final Text text = new Text();
    private int faultPosition = NONE;
    private int faultReason = 0;
    private int faultCause = 0;

    public ChairNames() {
        for (int i = 0; i < MOST_STATES; i++) {
            history[i] = new Room();
        }
    }

    // ---- names, orders

    public int begin(int chairs) {
        return settle(spareRoom().empty(chairs));
    }

    public int put(int name, int value) {
        return settle(spareRoom().putValue(name, value));
    }

    public int copy(int name, int from) {
        return settle(spareRoom().copyName(name, from));
    }

    public int order(int what, int name, int one, int other) {
        return settle(spareRoom().giveOrder(what, name, one, other));
    }

    public int tick(int ticks) {
        return settle(spareRoom().letTicksGo(ticks));
    }

    public int set(int what, int value) {
        return settle(spareRoom().changeSetting(what, value));
    }

    // ---- marks

    public int mark() {
        return settle(spareRoom().addMark());
    }

    public int keep() {
        return settle(spareRoom().dropFirstMark());
    }

    public int back(int mark) {
        return settle(spareRoom().goBack(mark));
    }

    public int markOf(int mark, int name, int what) {
        return room.tellMark(mark, name, what);
    }

    // ---- what there is

    public int nameOf(int name, int what) {
        return room.tellName(name, what);
    }

    public int chairOf(int chair, int what) {
        return room.tellChair(chair, what);
    }

    public int orderOf(int index, int what) {
        return room.tellOrder(index, what);
    }

    public int count(int what) {
        if (what == 10) {
            return states;
        }
        if (what == 11) {
            return text.length;
        }
        return room.tellNumber(what);
    }

    // ---- what would be

    public int sends(int name, int one, int other) {
        Room spare = spareRoom();
        int code = spare.giveOrder(ADD, name, one, other);
        // too many orders are told only when all have their chairs: the versions are sent out by then
        if (code < 0 && code != LIMIT_REACHED) {
            return code;
        }
        return spare.sentOut - room.sentOut;
    }

    public int idleIn() {
        return spareRoom().ticksTillIdle();
    }

    public int knownIn(int name) {
        if (!isName(name)) {
            return INVALID_ARGUMENT;
        }
        return spareRoom().ticksTillKnown(name);
    }

    public int undo() {
        if (states <= 0 || states > MOST_STATES) {
            return NOT_POSSIBLE;
        }
        states--;
        Room left = room;
        room = history[states];
        history[states] = left;
        return states;
    }

    // ---- texts

    public int type(int character) {
        if (!within(character, 32, 126)) {
            return INVALID_ARGUMENT;
        }
        return text.append((char) character);
    }

    public int clearText() {
        int length = text.length;
        text.length = 0;
        return length;
    }

    public int fault(int what) {
        if (!within(what, 0, 2)) {
            return INVALID_ARGUMENT;
        }
        tryText();
        if (faultReason == 0) {
            return NOT_FOUND;
        }
        if (what == 0) {
            return faultPosition;
        }
        if (what == 1) {
            return faultReason;
        }
        return faultReason == BAD_FORM ? NOT_FOUND : faultCause;
    }

    public int play() {
        int commands = tryText();
        return settle(faultReason == 0 ? commands : NOT_POSSIBLE);
    }

    /** The spare room, made equal to the room: what is tried there is nobody's yet. */
    private Room spareRoom() {
        trial.become(room);
        return trial;
    }

    /** Makes the spare room the room, unless the answer of what was tried there is an error. */
    private int settle(int answer) {
        if (answer < 0) {
            return answer;
        }
        Room free;
        if (states >= 0 && states < MOST_STATES) {
            free = history[states];
            history[states] = room;
            states++;
        } else {
            free = history[0];
            for (int i = 1; i < MOST_STATES; i++) {
                history[i - 1] = history[i];
            }
            history[MOST_STATES - 1] = room;
        }
        room = trial;
        trial = free;
        return answer;
    }

    /** Does the commands of the text in the spare room up to the fault; answers how many are done. */
    private int tryText() {
        Room spare = spareRoom();
        int commands = 0;
        int position = 0;
        noteFault(NONE, 0, 0);
        while (commands < MOST_SIGNS && position < text.length) {
            int command = text.readCommand(position);
            if (command == NONE) {
                noteFault(position, BAD_FORM, 0);
                return commands;
            }
            int answer = spare.perform(command, text.words[0], text.words[1], text.words[2]);
            if (answer < 0) {
                noteFault(position, BAD_COMMAND, answer);
                return commands;
            }
            commands++;
            position = text.next;
        }
        return commands;
    }

    private void noteFault(int position, int reason, int cause) {
        faultPosition = position;
        faultReason = reason;
        faultCause = cause;
    }

    private static boolean within(int number, int least, int most) {
        return number >= least && number <= most;
    }

    private static boolean isName(int name) {
        return within(name, 0, NAMES - 1);
    }

    /** The chairs and home values of all names: as they are, or as a mark remembers them. */
    private static final class Names {
        final int[] chair = new int[NAMES];
        final int[] home = new int[NAMES];

        Names() {
            for (int name = 0; name < NAMES; name++) {
                chair[name] = NONE;
            }
        }

        void standAtZero() {
            for (int name = 0; name < NAMES; name++) {
                chair[name] = NONE;
                home[name] = 0;
            }
        }

        void become(Names other) {
            for (int name = 0; name < NAMES; name++) {
                chair[name] = other.chair[name];
                home[name] = other.home[name];
            }
        }

        /** The names whose version is on a chair, as a set. */
        int namesOn(int wanted) {
            int set = 0;
            for (int name = 0; name < NAMES; name++) {
                if (chair[name] == wanted) {
                    set |= 1 << name;
                }
            }
            return set;
        }

        /** The chairs of the versions that names have, as a set. */
        int chairSet() {
            int set = 0;
            for (int name = 0; name < NAMES; name++) {
                if (chair[name] != NONE) {
                    set |= 1 << chair[name];
                }
            }
            return set;
        }

        /** The chair of a name's version as a set, which is empty if the name stands. */
        int chairSetOf(int name) {
            if (name < 0 || name >= NAMES || chair[name] == NONE) {
                return 0;
            }
            return 1 << chair[name];
        }
    }

    /**
     * The versions by their chairs. A value stands as soon as its version is made, for what an order
     * reads cannot change any more; only the time from which it is known comes later.
     */
    private static final class Versions {
        final int[] value = new int[MOST_CHAIRS];
        final int[] knownAt = new int[MOST_CHAIRS];
        final int[] usedAt = new int[MOST_CHAIRS];

        void become(Versions other) {
            for (int chair = 0; chair < MOST_CHAIRS; chair++) {
                value[chair] = other.value[chair];
                knownAt[chair] = other.knownAt[chair];
                usedAt[chair] = other.usedAt[chair];
            }
        }

        void place(int chair, int newValue, int newKnownAt, int use) {
            if (chair >= 0 && chair < MOST_CHAIRS) {
                value[chair] = newValue;
                knownAt[chair] = newKnownAt;
                usedAt[chair] = use;
            }
        }

        void use(int chair, int use) {
            if (chair >= 0 && chair < MOST_CHAIRS) {
                usedAt[chair] = use;
            }
        }

        int valueOn(int chair) {
            return chair >= 0 && chair < MOST_CHAIRS ? value[chair] : 0;
        }

        int knownTimeOf(int chair) {
            return chair >= 0 && chair < MOST_CHAIRS ? knownAt[chair] : NEVER;
        }

        void setKnownTime(int chair, int time) {
            if (chair >= 0 && chair < MOST_CHAIRS) {
                knownAt[chair] = time;
            }
        }
    }

    /** The orders that are not done, the one given first ahead. */
    private static final class Orders {
        int size = 0;
        final int[] what = new int[MOST_ORDERS];
        final int[] chair = new int[MOST_ORDERS];
        final int[] first = new int[MOST_ORDERS];
        final int[] second = new int[MOST_ORDERS];
        /** How many marks were there when the order was given and are there still. */
        final int[] marks = new int[MOST_ORDERS];

        void become(Orders other) {
            size = other.size;
            for (int i = 0; i < MOST_ORDERS; i++) {
                what[i] = other.what[i];
                chair[i] = other.chair[i];
                first[i] = other.first[i];
                second[i] = other.second[i];
                marks[i] = other.marks[i];
            }
        }

        boolean isOne(int index) {
            return index >= 0 && index < size && index < MOST_ORDERS;
        }

        void add(int kind, int newChair, int readFirst, int readSecond, int marksNow) {
            if (size >= 0 && size < MOST_ORDERS) {
                what[size] = kind;
                chair[size] = newChair;
                first[size] = readFirst;
                second[size] = readSecond;
                marks[size] = marksNow;
                size++;
            }
        }

        /** Moves an order ahead to a place whose order is gone. */
        void move(int from, int to) {
            if (from >= 0 && from < MOST_ORDERS && to >= 0 && to < from) {
                what[to] = what[from];
                chair[to] = chair[from];
                first[to] = first[from];
                second[to] = second[from];
                marks[to] = marks[from];
            }
        }

        /** Drops the orders that were given when more marks were there, always the last; answers how many. */
        int dropGivenAfter(int marksThen) {
            int before = size;
            while (size > 0 && size <= MOST_ORDERS && marks[size - 1] > marksThen) {
                size--;
            }
            return before - size;
        }

        void forgetFirstMark() {
            for (int i = 0; i < size && i < MOST_ORDERS; i++) {
                if (marks[i] > 0) {
                    marks[i]--;
                }
            }
        }

        /** How many orders read the version on a chair. */
        int readersOf(int wanted) {
            int readers = 0;
            for (int i = 0; i < size && i < MOST_ORDERS; i++) {
                if (first[i] == wanted || second[i] == wanted) {
                    readers++;
                }
            }
            return readers;
        }

        boolean makeFor(int wanted) {
            for (int i = 0; i < size && i < MOST_ORDERS; i++) {
                if (chair[i] == wanted) {
                    return true;
                }
            }
            return false;
        }
    }

    /** All that a change may change. Nothing is kept of which chairs are free: it follows from the rest. */
    private static final class Room {
        int chairs = FIRST_CHAIRS;
        int time = 0;
        int ordersDone = 0;
        int sentOut = 0;
        int satDown = 0;
        /** The number of the call or command that is done, by which uses are told apart. */
        int turn = 0;
        int markCount = 0;
        final int[] settings = {1, 3, 2, 2};
        final Names names = new Names();
        final Versions versions = new Versions();
        final Orders orders = new Orders();
        final Names[] marks = new Names[MOST_MARKS];

        Room() {
            for (int i = 0; i < MOST_MARKS; i++) {
                marks[i] = new Names();
            }
        }

        void become(Room other) {
            chairs = other.chairs;
            time = other.time;
            ordersDone = other.ordersDone;
            sentOut = other.sentOut;
            satDown = other.satDown;
            turn = other.turn;
            markCount = other.markCount;
            for (int i = 0; i < SETTINGS; i++) {
                settings[i] = other.settings[i];
            }
            names.become(other.names);
            versions.become(other.versions);
            orders.become(other.orders);
            for (int i = 0; i < MOST_MARKS; i++) {
                marks[i].become(other.marks[i]);
            }
        }

        // ---- changes

        int perform(int command, int first, int second, int third) {
            switch (command) {
                case ADD:
                case SUB:
                case MUL:
                    return giveOrder(command, first, second, third);
                case PUT:
                    return putValue(first, second);
                case COPY:
                    return copyName(first, second);
                case TICK:
                    return letTicksGo(first);
                case MARK:
                    return addMark();
                case KEEP:
                    return dropFirstMark();
                case BACK:
                    return goBack(first);
                default:
                    return INVALID_ARGUMENT;
            }
        }

        int empty(int newChairs) {
            if (!within(newChairs, FEWEST_CHAIRS, MOST_CHAIRS)) {
                return INVALID_ARGUMENT;
            }
            int before = chairs;
            chairs = newChairs;
            time = 0;
            ordersDone = 0;
            sentOut = 0;
            satDown = 0;
            markCount = 0;
            orders.size = 0;
            names.standAtZero();
            return before;
        }

        int putValue(int name, int value) {
            if (!isName(name) || !within(value, 0, MOST_VALUE)) {
                return INVALID_ARGUMENT;
            }
            turn++;
            names.chair[name] = NONE;
            return seat(name, value, time, NONE, NONE);
        }

        int copyName(int name, int from) {
            if (!isName(name) || !isName(from) || name == from) {
                return INVALID_ARGUMENT;
            }
            turn++;
            if (!findSeat(from, from, from)) {
                return NOT_POSSIBLE;
            }
            int chair = names.chair[from];
            names.chair[name] = chair;
            versions.use(chair, turn);
            return chair;
        }

        int giveOrder(int what, int name, int one, int other) {
            if (!within(what, ADD, MUL) || !isName(name) || !isName(one) || !isName(other)) {
                return INVALID_ARGUMENT;
            }
            turn++;
            if (name != one && name != other) {
                names.chair[name] = NONE;
            }
            if (!findSeat(one, one, other) || !findSeat(other, one, other)) {
                return NOT_POSSIBLE;
            }
            int first = names.chair[one];
            int second = names.chair[other];
            int value = result(what, versions.valueOn(first), versions.valueOn(second));
            int chair = seat(name, value, NEVER, one, other);
            if (chair < 0) {
                return NOT_POSSIBLE;
            }
            if (orders.size >= MOST_ORDERS) {
                return LIMIT_REACHED;
            }
            versions.use(first, turn);
            versions.use(second, turn);
            orders.add(what, chair, first, second, markCount);
            return chair;
        }

        int letTicksGo(int ticks) {
            if (!within(ticks, 1, MOST_TICKS)) {
                return INVALID_ARGUMENT;
            }
            if (time + ticks > LAST_TIME) {
                return LIMIT_REACHED;
            }
            int before = ordersDone;
            for (int i = 0; i < ticks; i++) {
                letTickGo();
            }
            return ordersDone - before;
        }

        int changeSetting(int what, int value) {
            if (!within(what, 0, SETTINGS - 1)) {
                return INVALID_ARGUMENT;
            }
            int least = what == SITTING_TICKS ? 0 : 1;
            int most = what == BEGINS_IN_A_TICK ? 3 : 9;
            if (!within(value, least, most)) {
                return INVALID_ARGUMENT;
            }
            int before = settings[what];
            settings[what] = value;
            return before;
        }

        int addMark() {
            if (markCount < 0 || markCount >= MOST_MARKS) {
                return LIMIT_REACHED;
            }
            marks[markCount].become(names);
            markCount++;
            return markCount - 1;
        }

        int dropFirstMark() {
            if (markCount <= 0) {
                return NOT_POSSIBLE;
            }
            for (int i = 1; i < MOST_MARKS; i++) {
                marks[i - 1].become(marks[i]);
            }
            markCount--;
            orders.forgetFirstMark();
            return markCount;
        }

        int goBack(int mark) {
            if (!isMark(mark)) {
                return INVALID_ARGUMENT;
            }
            names.become(marks[mark]);
            markCount = mark;
            return orders.dropGivenAfter(mark);
        }

        /** Sees to it that a name that is read sits; answers false if there is no chair for it. */
        private boolean findSeat(int name, int one, int other) {
            if (names.chair[name] != NONE) {
                return true;
            }
            satDown++;
            return seat(name, names.home[name], time + settings[SITTING_TICKS], one, other) >= 0;
        }

        /** Gives a name a new version; what the names one and other have is not sent out for it. */
        private int seat(int name, int value, int knownAt, int one, int other) {
            int pinned = pinnedChairs();
            int had = names.chairSet();
            int chair = lowestFreeChair(pinned | had);
            if (chair == NONE) {
                int read = names.chairSetOf(one) | names.chairSetOf(other);
                chair = longestUnused(had & ~pinned & ~read);
                if (chair == NONE) {
                    return NOT_POSSIBLE;
                }
                sendOut(chair, versions.valueOn(chair));
            }
            versions.place(chair, value, knownAt, turn);
            names.chair[name] = chair;
            return chair;
        }

        private void sendOut(int chair, int value) {
            sentOut++;
            for (int name = 0; name < NAMES; name++) {
                if (names.chair[name] == chair) {
                    names.chair[name] = NONE;
                    names.home[name] = value;
                }
            }
        }

        private static int result(int what, int first, int second) {
            switch (what) {
                case ADD:
                    return (first + second) % VALUES;
                case SUB:
                    return Math.floorMod(first - second, VALUES);
                default:
                    return first * second % VALUES;
            }
        }

        // ---- ticks

        private void letTickGo() {
            time++;
            finishOrders();
            beginOrders();
        }

        private void finishOrders() {
            int left = 0;
            int before = orders.size;
            for (int i = 0; i < before && i < MOST_ORDERS; i++) {
                if (versions.knownTimeOf(orders.chair[i]) > time) {
                    orders.move(i, left);
                    left++;
                }
            }
            orders.size = left;
            ordersDone += before - left;
        }

        private void beginOrders() {
            int begun = 0;
            for (int i = 0; i < orders.size && i < MOST_ORDERS; i++) {
                int chair = orders.chair[i];
                int firstAt = versions.knownTimeOf(orders.first[i]);
                int secondAt = versions.knownTimeOf(orders.second[i]);
                boolean ready = versions.knownTimeOf(chair) == NEVER && firstAt <= time && secondAt <= time;
                if (ready && begun < settings[BEGINS_IN_A_TICK]) {
                    int ticks = settings[orders.what[i] == MUL ? MUL_TICKS : SHORT_TICKS];
                    versions.setKnownTime(chair, time + ticks);
                    begun++;
                }
            }
        }

        int ticksTillIdle() {
            int ticks = 0;
            while (orders.size > 0 && ticks < FORECAST_TICKS) {
                letTickGo();
                ticks++;
            }
            return ticks;
        }

        int ticksTillKnown(int name) {
            int ticks = 0;
            while (isName(name) && hidesValue(name) && ticks < FORECAST_TICKS) {
                letTickGo();
                ticks++;
            }
            return ticks;
        }

        // ---- what there is

        int tellMark(int mark, int name, int what) {
            if (!isMark(mark) || !isName(name) || !within(what, 0, 1)) {
                return INVALID_ARGUMENT;
            }
            if (what == 1) {
                return marks[mark].home[name];
            }
            return found(marks[mark].chair[name]);
        }

        int tellName(int name, int what) {
            if (!isName(name)) {
                return INVALID_ARGUMENT;
            }
            int chair = names.chair[name];
            int home = names.home[name];
            int value = chair == NONE ? home : versions.valueOn(chair);
            switch (what) {
                case 0:
                    return hidesValue(name) ? NOT_FOUND : value;
                case 1:
                    return found(chair);
                case 2:
                    return home;
                case 3:
                    return chair == NONE ? NOT_FOUND : Integer.bitCount(names.namesOn(chair));
                case 4:
                    return value;
                default:
                    return INVALID_ARGUMENT;
            }
        }

        int tellChair(int chair, int what) {
            if (!within(chair, 0, chairs - 1) || !within(what, 0, 5)) {
                return INVALID_ARGUMENT;
            }
            int pinned = pinnedChairs();
            int had = names.chairSet();
            if (((pinned | had) >> chair & 1) == 0) {
                return NOT_FOUND;
            }
            switch (what) {
                case 0:
                    return isKnown(chair) ? versions.valueOn(chair) : NOT_FOUND;
                case 1:
                    return names.namesOn(chair);
                case 2:
                    return marksOn(chair);
                case 3:
                    return orders.readersOf(chair);
                case 4:
                    return orders.makeFor(chair) ? 1 : 0;
                default:
                    return longestUnused(had & ~pinned) == chair ? 1 : 0;
            }
        }

        int tellOrder(int index, int what) {
            if (!orders.isOne(index)) {
                return INVALID_ARGUMENT;
            }
            switch (what) {
                case 0:
                    return orders.what[index];
                case 1:
                    return orders.chair[index];
                case 2:
                    return orders.first[index];
                case 3:
                    return orders.second[index];
                case 4:
                    return hasBegun(index) ? 1 : 0;
                case 5:
                    return hasBegun(index) ? versions.knownTimeOf(orders.chair[index]) - time : NOT_FOUND;
                case 6:
                    return orders.marks[index];
                default:
                    return INVALID_ARGUMENT;
            }
        }

        int tellNumber(int what) {
            switch (what) {
                case 0:
                    return chairs;
                case 1:
                    return chairs - Integer.bitCount(pinnedChairs() | names.chairSet());
                case 2:
                    return NAMES - Integer.bitCount(names.namesOn(NONE));
                case 3:
                    return orders.size;
                case 4:
                    return begunOrders();
                case 5:
                    return ordersDone;
                case 6:
                    return time;
                case 7:
                    return markCount;
                case 8:
                    return sentOut;
                case 9:
                    return satDown;
                default:
                    return within(what, 20, 20 + SETTINGS - 1) ? settings[what - 20] : INVALID_ARGUMENT;
            }
        }

        private static int found(int chair) {
            return chair == NONE ? NOT_FOUND : chair;
        }

        private boolean isMark(int mark) {
            return mark >= 0 && mark < markCount && mark < MOST_MARKS;
        }

        private boolean isKnown(int chair) {
            return versions.knownTimeOf(chair) <= time;
        }

        /** Whether a name has a version that is not known yet. */
        private boolean hidesValue(int name) {
            return names.chair[name] != NONE && !isKnown(names.chair[name]);
        }

        private boolean hasBegun(int index) {
            return orders.isOne(index) && versions.knownTimeOf(orders.chair[index]) != NEVER;
        }

        private int begunOrders() {
            int begun = 0;
            for (int i = 0; i < orders.size && i < MOST_ORDERS; i++) {
                if (hasBegun(i)) {
                    begun++;
                }
            }
            return begun;
        }

        /** The marks that remember the version on a chair, as a set. */
        private int marksOn(int chair) {
            int set = 0;
            for (int i = 0; i < markCount && i < MOST_MARKS; i++) {
                if (marks[i].namesOn(chair) != 0) {
                    set |= 1 << i;
                }
            }
            return set;
        }

        /** The chairs whose versions marks or orders need, as a set: none of these is sent out. */
        private int pinnedChairs() {
            int set = 0;
            for (int i = 0; i < orders.size && i < MOST_ORDERS; i++) {
                set |= 1 << orders.chair[i] | 1 << orders.first[i] | 1 << orders.second[i];
            }
            for (int name = 0; name < NAMES; name++) {
                for (int i = 0; i < markCount && i < MOST_MARKS; i++) {
                    if (marks[i].chair[name] != NONE) {
                        set |= 1 << marks[i].chair[name];
                    }
                }
            }
            return set;
        }

        private int lowestFreeChair(int taken) {
            for (int chair = 0; chair < chairs; chair++) {
                if ((taken >> chair & 1) == 0) {
                    return chair;
                }
            }
            return NONE;
        }

        /** Of the chairs of a set that with the known version that was used longest ago. */
        private int longestUnused(int set) {
            int best = NONE;
            for (int chair = 0; chair < chairs && chair < MOST_CHAIRS; chair++) {
                boolean may = (set >> chair & 1) == 1 && versions.knownAt[chair] <= time;
                if (may && (best == NONE || versions.usedAt[chair] < versions.usedAt[best])) {
                    best = chair;
                }
            }
            return best;
        }
    }

    /** The text, and what was read from it last. */
    private static final class Text {
        final char[] signs = new char[MOST_SIGNS];
        int length = 0;
        /** The names and numbers of the command that was read last. */
        final int[] words = new int[MOST_WORDS];
        /** The position behind the command, or the name or number, that was read last. */
        int next = 0;

        int append(char sign) {
            if (length < 0 || length >= MOST_SIGNS) {
                return LIMIT_REACHED;
            }
            signs[length] = sign;
            length++;
            return length;
        }

        /** Reads the command that begins at a position; answers which it is, NONE if it is of no form. */
        int readCommand(int position) {
            for (int command = 0; command < COMMANDS; command++) {
                if (matches(form(command), position)) {
                    return command;
                }
            }
            return NONE;
        }

        /** How a command is written: @ is a name, # a number. */
        private static String form(int command) {
            switch (command) {
                case ADD:
                    return "add @ @ @;";
                case SUB:
                    return "sub @ @ @;";
                case MUL:
                    return "mul @ @ @;";
                case PUT:
                    return "put @ #;";
                case COPY:
                    return "copy @ @;";
                case TICK:
                    return "tick #;";
                case MARK:
                    return "mark;";
                case KEEP:
                    return "keep;";
                default:
                    return "back #;";
            }
        }

        private boolean matches(String form, int position) {
            int word = 0;
            next = position;
            for (int i = 0; i < form.length(); i++) {
                char wanted = form.charAt(i);
                if (wanted == '@' || wanted == '#') {
                    int read = wanted == '@' ? readName() : readNumber();
                    if (read == NONE || word >= MOST_WORDS) {
                        return false;
                    }
                    words[word] = read;
                    word++;
                } else if (signAt(next) == wanted) {
                    next++;
                } else {
                    return false;
                }
            }
            return true;
        }

        private int readName() {
            int sign = signAt(next);
            if (!within(sign, 'a', 'h')) {
                return NONE;
            }
            next++;
            return sign - 'a';
        }

        private int readNumber() {
            int number = 0;
            int digits = 0;
            while (digits < MOST_DIGITS && within(signAt(next), '0', '9')) {
                number = number * 10 + signAt(next) - '0';
                digits++;
                next++;
            }
            return digits == 0 ? NONE : number;
        }

        private int signAt(int position) {
            return position >= 0 && position < length && position < MOST_SIGNS ? signs[position] : NONE;
        }
    }
}
