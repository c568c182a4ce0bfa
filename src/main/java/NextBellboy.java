/** A hotel in which each guest is bellboy to the next one; see README.md for its use. */
public final class NextBellboy {
    public static final int BAD = -1, NO = -2, FULL = -3, NONE = -4;

    private static final int MOST_GUESTS = 7;
    private static final int MOST_LETTERS = 200;
    private static final int MOST_SEEN = 7;
    private static final int MOST_COINS = 200;
    private static final int MOST_UNDONE = 8;
    private static final int MOST_KEPT = 2;
    private static final int LAST_HOUR = 40;
    private static final int LONGEST_PASS = 24;
    private static final int LONGEST_SEASON = 60;
    private static final int LAST_SEASON = 9999;
    /** So many hours ahead a forecast looks; what would be later is told as NONE. */
    private static final int HORIZON = 99;
    private static final int NEVER = 1000000;
    /** Far above the nodes and orders that a search over seven guests can have. */
    private static final int MOST_STEPS = 1000000;

    private static final int BOOKED = 0, HERE = 1, FREE = 2, CALLED_OFF = 3;
    private static final int BISHOP = 1, BABY = 2, WIDOWED = 3;

    private static final String FIRST_TEXT =
        "g0,2,10,4,3;g1,4,8,9,2;g2,5,6,0,1;g0,7,12,5,4;g3,7,9,2,2;g0,15,5,6,3;r2;r5;r1;r4;r0;r3;";

    private final Script script;
    private final Plan plan;
    private final Plan draft;
    private final House house;
    /** Where forecasts and seasons are tried, so that the house itself stays as it is. */
    private final House trial;
    private final Outlook outlook;
    private final Shelf past;
    private final Shelf kept;
    private final Dealing dealing;
    private final Sightings sightings;
    private final Chance chance;

    public NextBellboy() {
        script = new Script();
        plan = new Plan();
        draft = new Plan();
        house = new House(plan);
        trial = new House(plan);
        outlook = new Outlook(plan);
        past = new Shelf(plan, MOST_UNDONE);
        kept = new Shelf(plan, MOST_KEPT);
        dealing = new Dealing(plan);
        sightings = new Sightings(plan);
        chance = new Chance(plan);
        for (int i = 0; i < FIRST_TEXT.length(); i++) {
            script.append(FIRST_TEXT.charAt(i));
        }
        layScript();
        script.clear();
    }

    // ---- houses

    public int write(int letter) {
        if (letter < 32 || letter > 126) {
            return BAD;
        }
        return script.append(letter) ? script.length : FULL;
    }

    public int wipe() {
        int length = script.length;
        script.clear();
        return length;
    }

    public int fault() {
        return script.readInto(draft);
    }

    public int lay() {
        return layScript() ? plan.size : NO;
    }

    public int guest(int g, int what) {
        if (!plan.has(g)) {
            return BAD;
        }
        switch (what) {
            case 0: return plan.kind[g];
            case 1: return plan.need[g];
            case 2: return plan.tip[g];
            case 3: return plan.speed[g];
            default: return BAD;
        }
    }

    public int state(int g, int what) {
        if (!plan.has(g)) {
            return BAD;
        }
        switch (what) {
            case 0: return house.status[g];
            case 1: return house.hour[g];
            case 2: return house.far[g];
            case 3: return house.work[g];
            case 4: return house.seer[g];
            case 5: return house.saw[g];
            case 6: return house.coins[g];
            default: return BAD;
        }
    }

    // ---- acts

    public int pass(int n) {
        if (n < 1 || n > LONGEST_PASS) {
            return BAD;
        }
        beginAct();
        for (int i = 0; i < n; i++) {
            house.oneHour();
        }
        return house.gone;
    }

    public int book(int g, int h) {
        if (!plan.has(g) || h < 0 || h > LAST_HOUR) {
            return BAD;
        }
        if (!house.isBooked(g) || h < house.gone) {
            return NO;
        }
        beginAct();
        int before = house.hour[g];
        house.rebook(g, h);
        return before;
    }

    public int call(int g) {
        if (!plan.has(g)) {
            return BAD;
        }
        if (!house.isBooked(g)) {
            return NO;
        }
        beginAct();
        house.callOff(g);
        return house.howMany(BOOKED);
    }

    public int change(int g, int j) {
        if (!plan.has(g) || !plan.has(j) || g == j) {
            return BAD;
        }
        if (!house.isBooked(g) || !house.isBooked(j)) {
            return NO;
        }
        beginAct();
        house.swapRooms(g, j);
        return house.far[g];
    }

    public int undo() {
        if (!past.takeInto(house)) {
            return NO;
        }
        dealing.goStale();
        return past.size;
    }

    // ---- what comes

    public int freed(int g) {
        if (!plan.has(g)) {
            return BAD;
        }
        outlook.look(house);
        return withinHorizon(outlook.freeBehind[g]);
    }

    public int task(int g) {
        if (!plan.has(g)) {
            return BAD;
        }
        outlook.look(house);
        return house.loadSoFar(g) + outlook.load[g];
    }

    public int early(int g, int what) {
        if (!plan.has(g) || what < 0 || what > 1) {
            return BAD;
        }
        if (!house.isBooked(g)) {
            return NO;
        }
        trial.copyFrom(house);
        int best = NONE;
        int least = NONE;
        for (int h = Math.max(0, house.gone); h <= LAST_HOUR; h++) {
            trial.rebook(g, h);
            outlook.look(trial);
            if (best == NONE || outlook.load[g] < least) {
                best = h;
                least = outlook.load[g];
            }
        }
        return what == 0 ? best : least;
    }

    public int done() {
        outlook.look(house);
        return withinHorizon(outlook.allDone);
    }

    public int deal(int g) {
        if (g != -1 && !plan.has(g)) {
            return BAD;
        }
        dealing.refresh(house);
        return g == -1 ? withinHorizon(dealing.soonest) : dealing.ownerFor(g);
    }

    public int off(int what) {
        if (what < 0 || what > 1) {
            return BAD;
        }
        int best = NONE;
        int soonest = HORIZON + 1;
        for (int g = 0; g < MOST_GUESTS && g < plan.size; g++) {
            if (house.isBooked(g)) {
                trial.copyFrom(house);
                trial.callOff(g);
                outlook.look(trial);
                if (outlook.allDone < soonest) {
                    best = g;
                    soonest = outlook.allDone;
                }
            }
        }
        if (best == NONE) {
            return NONE;
        }
        return what == 0 ? best : soonest;
    }

    // ---- what was seen

    public int see(int g, int c) {
        if (!plan.has(g) || c < 0 || c > MOST_COINS) {
            return BAD;
        }
        return sightings.add(g, c) ? sightings.size : FULL;
    }

    public int forget() {
        int size = sightings.size;
        sightings.clear();
        return size;
    }

    public int orders(int k) {
        if (k != -1 && !plan.has(k)) {
            return BAD;
        }
        sightings.refresh();
        return k == -1 ? sightings.total : sightings.firstOrderAt(k);
    }

    // ---- absent ones, seasons

    public int absent(int g, int x, int part) {
        if (!plan.has(g) || x < 0 || x > 10 || part < 0 || part > 1) {
            return BAD;
        }
        chance.weigh(house, g, x);
        return part == 0 ? chance.above : chance.below;
    }

    public int season(int z, int n, int what) {
        if (z < 0 || z > LAST_SEASON || n < 1 || n > LONGEST_SEASON || what < 0 || what > 1) {
            return BAD;
        }
        trial.copyFrom(house);
        for (int k = 0; k < n; k++) {
            trial.disturb(drawOf(z, k));
            trial.oneHour();
        }
        return what == 0 ? trial.howMany(FREE) : trial.allCoins();
    }

    public int keep() {
        if (kept.isFull()) {
            return FULL;
        }
        kept.put(house);
        return kept.size;
    }

    public int back() {
        if (!kept.takeInto(house)) {
            return NO;
        }
        past.clear();
        dealing.goStale();
        return kept.size;
    }

    public int count(int what) {
        switch (what) {
            case 0: return plan.size;
            case 1: return house.gone;
            case 2: return house.howMany(BOOKED);
            case 3: return house.howMany(HERE);
            case 4: return house.howMany(FREE);
            case 5: return house.howMany(CALLED_OFF);
            case 6: return house.cap;
            case 7: return house.allCoins();
            case 8: return house.allWork();
            case 9: return sightings.size;
            case 10: return past.size;
            case 11: return kept.size;
            case 12: return script.length;
            default: return BAD;
        }
    }

    private boolean layScript() {
        if (script.readInto(draft) != NONE || draft.size < 1) {
            return false;
        }
        plan.copyFrom(draft);
        house.open();
        past.clear();
        kept.clear();
        sightings.clear();
        dealing.goStale();
        return true;
    }

    /** Every act leaves the house as it was on the shelf, so that it can be undone. */
    private void beginAct() {
        past.put(house);
        dealing.goStale();
    }

    private static int withinHorizon(int hours) {
        return hours <= HORIZON ? hours : NONE;
    }

    private static int drawOf(int z, int k) {
        long x = 7919L * z + 6151L * k + 1;
        return (int) (x * x % 65521);
    }

    /** THE TEXT, and how its items are read. */
    private static final class Script {
        private static final int NOT_SO = -1;
        private static final int[] GUEST_LEAST = {0, 0, 1, 0, 1};
        private static final int[] GUEST_MOST = {3, 40, 30, 20, 9};
        private static final int[] ROOM_LEAST = {0};
        private static final int[] ROOM_MOST = {9};

        private final int[] letters = new int[MOST_LETTERS];
        private final int[] numbers = new int[5];
        private int length = 0;

        private boolean append(int letter) {
            if (length < 0 || length >= letters.length) {
                return false;
            }
            letters[length] = letter;
            length++;
            return true;
        }

        private void clear() {
            length = 0;
        }

        /** Answers the fault, or NONE; with a fault the draft holds what stands ahead of it. */
        private int readInto(Plan draft) {
            draft.clear();
            int at = 0;
            for (int item = 0; item < MOST_LETTERS && at < length; item++) {
                int behind = readItem(at, draft);
                if (behind == NOT_SO) {
                    return at;
                }
                at = behind;
            }
            return NONE;
        }

        private int readItem(int at, Plan draft) {
            if (letterAt(at) == 'g') {
                int behind = readNumbers(at + 1, GUEST_LEAST, GUEST_MOST);
                return behind != NOT_SO && draft.addGuest(numbers) ? behind : NOT_SO;
            }
            if (letterAt(at) == 'r') {
                int behind = readNumbers(at + 1, ROOM_LEAST, ROOM_MOST);
                return behind != NOT_SO && draft.addRoom(numbers[0]) ? behind : NOT_SO;
            }
            return NOT_SO;
        }

        private int readNumbers(int from, int[] least, int[] most) {
            int many = Math.min(numbers.length, Math.min(least.length, most.length));
            int at = from;
            for (int i = 0; i < many; i++) {
                int figures = 0;
                int number = 0;
                while (figures < 2 && isFigure(at + figures)) {
                    number = number * 10 + letterAt(at + figures) - '0';
                    figures++;
                }
                if (figures == 0 || number < least[i] || number > most[i]) {
                    return NOT_SO;
                }
                at += figures;
                if (letterAt(at) != (i + 1 < many ? ',' : ';')) {
                    return NOT_SO;
                }
                at++;
                numbers[i] = number;
            }
            return at;
        }

        private boolean isFigure(int at) {
            return letterAt(at) >= '0' && letterAt(at) <= '9';
        }

        private int letterAt(int at) {
            return at >= 0 && at < length && at < letters.length ? letters[at] : 0;
        }
    }

    /** Guests and rooms as LAID. */
    private static final class Plan {
        private final int[] kind = new int[MOST_GUESTS];
        private final int[] hour = new int[MOST_GUESTS];
        private final int[] need = new int[MOST_GUESTS];
        private final int[] tip = new int[MOST_GUESTS];
        private final int[] speed = new int[MOST_GUESTS];
        private final int[] far = new int[MOST_GUESTS];
        private int size = 0;
        private int rooms = 0;

        private boolean has(int g) {
            return g >= 0 && g < size && g < MOST_GUESTS;
        }

        private void clear() {
            size = 0;
            rooms = 0;
            for (int g = 0; g < MOST_GUESTS; g++) {
                far[g] = 0;
            }
        }

        private boolean addGuest(int[] numbers) {
            if (size < 0 || size >= MOST_GUESTS || numbers.length < 5) {
                return false;
            }
            kind[size] = numbers[0];
            hour[size] = numbers[1];
            need[size] = numbers[2];
            tip[size] = numbers[3];
            speed[size] = numbers[4];
            size++;
            return true;
        }

        private boolean addRoom(int distance) {
            if (rooms < 0 || rooms >= MOST_GUESTS) {
                return false;
            }
            far[rooms] = distance;
            rooms++;
            return true;
        }

        private void copyFrom(Plan other) {
            size = other.size;
            rooms = other.rooms;
            for (int g = 0; g < MOST_GUESTS; g++) {
                kind[g] = other.kind[g];
                hour[g] = other.hour[g];
                need[g] = other.need[g];
                tip[g] = other.tip[g];
                speed[g] = other.speed[g];
                far[g] = other.far[g];
            }
        }
    }

    /** All as it stands: what undo, back and the trials of a season put in place again. */
    private static final class House {
        private final Plan plan;
        private final int[] status = new int[MOST_GUESTS];
        private final int[] hour = new int[MOST_GUESTS];
        private final int[] far = new int[MOST_GUESTS];
        private final int[] work = new int[MOST_GUESTS];
        private final int[] seer = new int[MOST_GUESTS];
        private final int[] saw = new int[MOST_GUESTS];
        private final int[] coins = new int[MOST_GUESTS];
        private int cap = NONE;
        private int gone = 0;

        private House(Plan plan) {
            this.plan = plan;
        }

        private void open() {
            cap = NONE;
            gone = 0;
            for (int g = 0; g < MOST_GUESTS; g++) {
                status[g] = BOOKED;
                hour[g] = plan.hour[g];
                far[g] = plan.far[g];
                work[g] = 0;
                seer[g] = NONE;
                saw[g] = 0;
                coins[g] = 0;
            }
        }

        private void copyFrom(House other) {
            cap = other.cap;
            gone = other.gone;
            for (int g = 0; g < MOST_GUESTS; g++) {
                status[g] = other.status[g];
                hour[g] = other.hour[g];
                far[g] = other.far[g];
                work[g] = other.work[g];
                seer[g] = other.seer[g];
                saw[g] = other.saw[g];
                coins[g] = other.coins[g];
            }
        }

        private int hourOf(int g) {
            return plan.has(g) ? hour[g] : NEVER;
        }

        private int roomOf(int g) {
            return plan.has(g) ? far[g] : 0;
        }

        private void giveRoom(int g, int distance) {
            if (plan.has(g)) {
                far[g] = distance;
            }
        }

        private boolean isBooked(int g) {
            return plan.has(g) && status[g] == BOOKED;
        }

        private void rebook(int g, int h) {
            if (isBooked(g) && h >= gone) {
                hour[g] = h;
            }
        }

        private void callOff(int g) {
            if (isBooked(g)) {
                status[g] = CALLED_OFF;
            }
        }

        private void swapRooms(int g, int j) {
            if (isBooked(g) && isBooked(j)) {
                int held = far[g];
                far[g] = far[j];
                far[j] = held;
            }
        }

        private int brings(int g) {
            if (!plan.has(g)) {
                return 0;
            }
            int need = plan.need[g];
            if (plan.kind[g] == BISHOP) {
                need = 2 * need;
            } else if (plan.kind[g] == WIDOWED) {
                need = need / 2;
            }
            return need + far[g];
        }

        private void oneHour() {
            for (int g = 0; g < MOST_GUESTS && g < plan.size; g++) {
                if (status[g] == BOOKED && hour[g] == gone) {
                    comes(g);
                }
            }
            for (int g = 0; g < MOST_GUESTS && g < plan.size; g++) {
                if (status[g] == HERE) {
                    work[g] = Math.max(0, work[g] - plan.speed[g]);
                }
            }
            for (int g = 0; g < MOST_GUESTS && g < plan.size; g++) {
                if (status[g] == HERE && g != cap && work[g] == 0) {
                    setFree(g);
                }
            }
            gone++;
        }

        private void comes(int g) {
            if (!plan.has(g)) {
                return;
            }
            if (plan.has(cap)) {
                work[cap] += brings(g);
                saw[cap] |= 1 << g;
                seer[g] = cap;
            }
            if (plan.kind[g] == BABY) {
                // a baby has seen to nobody, so no coins move as it is freed
                status[g] = FREE;
            } else {
                status[g] = HERE;
                cap = g;
            }
        }

        private void setFree(int g) {
            if (!plan.has(g)) {
                return;
            }
            status[g] = FREE;
            for (int other = 0; other < MOST_GUESTS && other < plan.size; other++) {
                if ((saw[g] >> other & 1) == 1) {
                    coins[g] += plan.tip[other];
                }
            }
            int above = seer[g];
            if (plan.has(above)) {
                int half = coins[g] / 2;
                coins[g] -= half;
                coins[above] += half;
            }
        }

        /** What a season does ahead of an hour; a draw that can't be followed does nothing. */
        private void disturb(int draw) {
            int size = plan.size;
            if (size < 1) {
                return;
            }
            int g = draw / 8 % size;
            int other = draw / 64;
            switch (draw % 8) {
                case 0:
                    rebook(g, Math.min(LAST_HOUR, gone + other % 8));
                    break;
                case 1:
                    callOff(g);
                    break;
                case 2:
                    swapRooms(g, other % size);
                    break;
                default:
                    break;
            }
        }

        private int loadSoFar(int g) {
            int load = 0;
            for (int other = 0; other < MOST_GUESTS && other < plan.size && plan.has(g); other++) {
                if ((saw[g] >> other & 1) == 1) {
                    load += brings(other);
                }
            }
            return load;
        }

        private int howMany(int wanted) {
            int many = 0;
            for (int g = 0; g < MOST_GUESTS && g < plan.size; g++) {
                if (status[g] == wanted) {
                    many++;
                }
            }
            return many;
        }

        private int allCoins() {
            int sum = 0;
            for (int g = 0; g < MOST_GUESTS && g < plan.size; g++) {
                sum += coins[g];
            }
            return sum;
        }

        private int allWork() {
            int sum = 0;
            for (int g = 0; g < MOST_GUESTS && g < plan.size; g++) {
                sum += work[g];
            }
            return sum;
        }
    }

    /** Houses as they stood, the latest last; a full shelf loses its oldest. */
    private static final class Shelf {
        private final House[] rows;
        private int size = 0;

        private Shelf(Plan plan, int most) {
            rows = new House[Math.max(1, most)];
            for (int i = 0; i < rows.length; i++) {
                rows[i] = new House(plan);
            }
        }

        private boolean isFull() {
            return size >= rows.length;
        }

        private void clear() {
            size = 0;
        }

        private void put(House house) {
            if (isFull()) {
                dropOldest();
            }
            if (size < 0 || size >= rows.length) {
                return;
            }
            House row = rows[size];
            if (row != null) {
                row.copyFrom(house);
                size++;
            }
        }

        private void dropOldest() {
            int last = rows.length - 1;
            if (last < 0) {
                return;
            }
            House oldest = rows[0];
            for (int i = 0; i < last; i++) {
                rows[i] = rows[i + 1];
            }
            rows[last] = oldest;
            size = last;
        }

        private boolean takeInto(House house) {
            if (size < 1 || size > rows.length) {
                return false;
            }
            House row = rows[size - 1];
            if (row == null) {
                return false;
            }
            house.copyFrom(row);
            size--;
            return true;
        }
    }

    /**
     * What comes if nothing else is done. Coins do not matter for it, and who sees to whom
     * hangs on the hours alone, so it goes from one coming to the next, not hour by hour.
     */
    private static final class Outlook {
        private final Plan plan;
        /** Who is booked, in the order in which they will come. */
        private final int[] line = new int[MOST_GUESTS];
        private final int[] work = new int[MOST_GUESTS];
        /** The hour up to which work is reckoned. */
        private final int[] since = new int[MOST_GUESTS];
        private final int[] freeBehind = new int[MOST_GUESTS];
        /** What those bring to whom one will yet see. */
        private final int[] load = new int[MOST_GUESTS];
        private int waiting = 0;
        private int cap = NONE;
        private int allDone = 0;

        private Outlook(Plan plan) {
            this.plan = plan;
        }

        private void look(House house) {
            lineUp(house);
            reckon(house);
        }

        private void lineUp(House house) {
            waiting = 0;
            for (int g = 0; g < MOST_GUESTS && g < plan.size; g++) {
                if (house.status[g] == BOOKED && waiting < MOST_GUESTS) {
                    int at = waiting;
                    while (at > 0 && house.hourOf(line[at - 1]) > house.hourOf(g)) {
                        line[at] = line[at - 1];
                        at--;
                    }
                    line[at] = g;
                    waiting++;
                }
            }
        }

        /** Rooms may differ from those at lineUp, hours may not. */
        private void reckon(House house) {
            begin(house);
            for (int i = 0; i < MOST_GUESTS && i < waiting; i++) {
                int g = line[i];
                if (plan.has(g)) {
                    meets(g, house);
                }
            }
        }

        private void begin(House house) {
            cap = house.cap;
            allDone = 0;
            for (int g = 0; g < MOST_GUESTS && g < plan.size; g++) {
                load[g] = 0;
                work[g] = house.work[g];
                since[g] = house.gone;
                freeBehind[g] = NEVER;
                if (house.status[g] == FREE) {
                    freeBehind[g] = 0;
                } else if (house.status[g] == HERE && g != cap) {
                    leaves(g, 0);
                }
            }
        }

        private void meets(int g, House house) {
            int come = house.hour[g];
            int ahead = come - house.gone;
            allDone = Math.max(allDone, ahead + 1);
            if (plan.has(cap)) {
                int brought = house.brings(g);
                int before = work[cap] - plan.speed[cap] * (come - since[cap]);
                work[cap] = Math.max(0, before) + brought;
                since[cap] = come;
                load[cap] += brought;
            }
            if (plan.kind[g] == BABY) {
                freeBehind[g] = ahead + 1;
                return;
            }
            if (plan.has(cap)) {
                leaves(cap, ahead);
            }
            cap = g;
        }

        /** One without the cap only works off what is left, one hour at least. */
        private void leaves(int g, int ahead) {
            int speed = plan.speed[g];
            if (speed > 0) {
                freeBehind[g] = ahead + Math.max(1, (work[g] + speed - 1) / speed);
                allDone = Math.max(allDone, freeBehind[g]);
            }
        }
    }

    /** DEAL: a search through the ways to give out the rooms, in the order of their telling. */
    private static final class Dealing {
        private static final int NO_PICK = -1;

        private final Plan plan;
        private final House trial;
        private final Outlook outlook;
        /** Who is booked, the lowest first: these get the rooms, and had them. */
        private final int[] who = new int[MOST_GUESTS];
        private final int[] pick = new int[MOST_GUESTS];
        private final int[] owner = new int[MOST_GUESTS];
        private int many = 0;
        private int taken = 0;
        private int nearest = 0;
        private int soonest = 0;
        private boolean stale = true;

        private Dealing(Plan plan) {
            this.plan = plan;
            this.trial = new House(plan);
            this.outlook = new Outlook(plan);
        }

        private void goStale() {
            stale = true;
        }

        private int ownerFor(int g) {
            return plan.has(g) ? owner[g] : NONE;
        }

        private void refresh(House house) {
            if (!stale) {
                return;
            }
            stale = false;
            trial.copyFrom(house);
            begin();
            if (many == 0) {
                outlook.look(trial);
                soonest = outlook.allDone;
            } else {
                soonest = HORIZON + 1;
                search(house);
            }
        }

        private void begin() {
            many = 0;
            taken = 0;
            nearest = NEVER;
            for (int g = 0; g < MOST_GUESTS && g < plan.size; g++) {
                owner[g] = NONE;
                if (trial.status[g] == BOOKED && many < MOST_GUESTS) {
                    who[many] = g;
                    many++;
                    nearest = Math.min(nearest, trial.far[g]);
                }
            }
            for (int i = 0; i < MOST_GUESTS; i++) {
                pick[i] = NO_PICK;
                if (isPlace(i)) {
                    trial.giveRoom(who[i], nearest);
                }
            }
        }

        private boolean isPlace(int i) {
            return i >= 0 && i < many && i < MOST_GUESTS;
        }

        /**
         * Those without a room yet are reckoned with the nearest one: a farther room never
         * makes anything sooner, so a way that is no better by then can be left.
         */
        private void search(House house) {
            outlook.lineUp(trial);
            int depth = 0;
            for (int step = 0; step < MOST_STEPS && isPlace(depth); step++) {
                if (!pickNext(depth, house)) {
                    depth--;
                    continue;
                }
                outlook.reckon(trial);
                if (outlook.allDone >= soonest) {
                    continue;
                }
                if (depth == many - 1) {
                    soonest = outlook.allDone;
                    writeDown();
                } else {
                    depth++;
                }
            }
        }

        private boolean pickNext(int depth, House house) {
            if (!isPlace(depth)) {
                return false;
            }
            int last = pick[depth];
            if (isPlace(last)) {
                taken &= ~(1 << last);
            }
            int next = last + 1;
            while (next < many && (taken >> next & 1) == 1) {
                next++;
            }
            if (!isPlace(next)) {
                pick[depth] = NO_PICK;
                trial.giveRoom(who[depth], nearest);
                return false;
            }
            pick[depth] = next;
            taken |= 1 << next;
            trial.giveRoom(who[depth], house.roomOf(who[next]));
            return true;
        }

        private void writeDown() {
            for (int i = 0; i < MOST_GUESTS && i < many; i++) {
                if (plan.has(who[i]) && isPlace(pick[i])) {
                    owner[who[i]] = who[pick[i]];
                }
            }
        }
    }

    /** SEEN, and the ORDERS that fit it. */
    private static final class Sightings {
        private final Plan plan;
        private final int[] who = new int[MOST_SEEN];
        private final int[] sum = new int[MOST_SEEN];
        private final int[] order = new int[MOST_GUESTS];
        private final int[] first = new int[MOST_GUESTS];
        private final int[] coins = new int[MOST_GUESTS];
        private int size = 0;
        private int total = 0;
        private boolean stale = true;

        private Sightings(Plan plan) {
            this.plan = plan;
        }

        private boolean add(int g, int c) {
            if (size < 0 || size >= MOST_SEEN) {
                return false;
            }
            who[size] = g;
            sum[size] = c;
            size++;
            stale = true;
            return true;
        }

        private void clear() {
            size = 0;
            stale = true;
        }

        private int firstOrderAt(int k) {
            return total > 0 && plan.has(k) ? first[k] : NONE;
        }

        private void refresh() {
            if (!stale) {
                return;
            }
            stale = false;
            total = 0;
            for (int i = 0; i < MOST_GUESTS && i < plan.size; i++) {
                order[i] = i;
            }
            boolean more = true;
            for (int step = 0; step < MOST_STEPS && more; step++) {
                comeInOrder();
                if (isAsSeen()) {
                    noteOrder();
                }
                more = nextOrder();
            }
        }

        private void noteOrder() {
            if (total == 0) {
                for (int i = 0; i < MOST_GUESTS && i < plan.size; i++) {
                    first[i] = order[i];
                }
            }
            total++;
        }

        private boolean isAsSeen() {
            for (int i = 0; i < MOST_SEEN && i < size; i++) {
                if (plan.has(who[i]) && coins[who[i]] != sum[i]) {
                    return false;
                }
            }
            return true;
        }

        /** As all are done with their work ahead of each coming, the one who loses the cap is free then. */
        private void comeInOrder() {
            for (int g = 0; g < MOST_GUESTS && g < plan.size; g++) {
                coins[g] = 0;
            }
            int cap = NONE;
            int above = NONE;
            int tips = 0;
            for (int i = 0; i < MOST_GUESTS && i < plan.size; i++) {
                int g = order[i];
                if (plan.has(g)) {
                    tips += plan.tip[g];
                    if (plan.kind[g] != BABY) {
                        payOut(cap, above, tips);
                        above = cap;
                        cap = g;
                        tips = 0;
                    }
                }
            }
        }

        private void payOut(int g, int above, int tips) {
            if (!plan.has(g)) {
                return;
            }
            coins[g] += tips;
            if (plan.has(above)) {
                int half = coins[g] / 2;
                coins[g] -= half;
                coins[above] += half;
            }
        }

        private boolean nextOrder() {
            int last = Math.min(MOST_GUESTS, plan.size) - 1;
            int turn = last - 1;
            while (turn >= 0 && order[turn] > order[turn + 1]) {
                turn--;
            }
            if (turn < 0) {
                return false;
            }
            int other = last;
            while (other > turn && order[other] < order[turn]) {
                other--;
            }
            swap(turn, other);
            int low = turn + 1;
            int high = last;
            while (low < high) {
                swap(low, high);
                low++;
                high--;
            }
            return true;
        }

        private void swap(int i, int j) {
            if (plan.has(i) && plan.has(j)) {
                int held = order[i];
                order[i] = order[j];
                order[j] = held;
            }
        }
    }

    /** ABSENT: the chance over all sets of those that do not come. */
    private static final class Chance {
        private final Plan plan;
        private final House trial;
        private final Outlook outlook;
        private final int[] who = new int[MOST_GUESTS];
        private int many = 0;
        private int above = 0;
        private int below = 1;

        private Chance(Plan plan) {
            this.plan = plan;
            this.trial = new House(plan);
            this.outlook = new Outlook(plan);
        }

        private void weigh(House house, int g, int x) {
            many = 0;
            for (int i = 0; i < MOST_GUESTS && i < plan.size; i++) {
                if (house.status[i] == BOOKED && many < MOST_GUESTS) {
                    who[many] = i;
                    many++;
                }
            }
            trial.copyFrom(house);
            above = 0;
            for (int away = 0; away < 1 << many; away++) {
                int weight = weightOf(away, x);
                if (weight > 0 && isFreeWithout(away, g)) {
                    above += weight;
                }
            }
            below = 1;
            for (int i = 0; i < many; i++) {
                below *= 10;
            }
            lower();
        }

        private int weightOf(int away, int x) {
            int weight = 1;
            for (int i = 0; i < many; i++) {
                weight *= (away >> i & 1) == 1 ? x : 10 - x;
            }
            return weight;
        }

        private boolean isFreeWithout(int away, int g) {
            for (int i = 0; i < MOST_GUESTS && i < many; i++) {
                if (plan.has(who[i])) {
                    trial.status[who[i]] = (away >> i & 1) == 1 ? CALLED_OFF : BOOKED;
                }
            }
            outlook.look(trial);
            return plan.has(g) && outlook.freeBehind[g] <= HORIZON;
        }

        private void lower() {
            int a = below;
            int b = above;
            // far more rounds than Euclid needs for numbers of an int
            for (int round = 0; round < 100 && b != 0; round++) {
                int rest = a % b;
                a = b;
                b = rest;
            }
            if (a > 0) {
                above /= a;
                below /= a;
            }
        }
    }
}
