import java.math.BigInteger;
import java.util.ArrayDeque;
import java.util.ArrayList;
import java.util.Deque;
import java.util.List;
import java.util.regex.Matcher;
import java.util.regex.Pattern;

/**
 * The document told a second time, as slowly and plainly as it reads: every forecast goes
 * hour by hour, every search tries all there is. Written apart from the program, so that
 * the two can be held against one another.
 */
final class Model {
    static final int BAD = -1, NO = -2, FULL = -3, NONE = -4;

    static final class Guest implements Cloneable {
        int kind, need, tip, speed;
        int status = 0, hour, far = 0, work = 0, seer = NONE, coins = 0;
        List<Integer> saw = new ArrayList<>();

        Guest twin() {
            try {
                Guest g = (Guest) clone();
                g.saw = new ArrayList<>(saw);
                return g;
            } catch (CloneNotSupportedException e) {
                throw new AssertionError(e);
            }
        }

        int brings() {
            switch (kind) {
                case 1: return 2 * need + far;
                case 3: return need / 2 + far;
                default: return need + far;
            }
        }
    }

    static final class Hotel {
        List<Guest> guests = new ArrayList<>();
        int cap = NONE, gone = 0;

        Hotel twin() {
            Hotel h = new Hotel();
            for (Guest g : guests) {
                h.guests.add(g.twin());
            }
            h.cap = cap;
            h.gone = gone;
            return h;
        }

        void comes(int i) {
            Guest g = guests.get(i);
            if (cap != NONE) {
                guests.get(cap).work += g.brings();
                guests.get(cap).saw.add(i);
                g.seer = cap;
            }
            if (g.kind == 2) {
                g.status = 2;
            } else {
                g.status = 1;
                cap = i;
            }
        }

        void hour() {
            for (int i = 0; i < guests.size(); i++) {
                if (guests.get(i).status == 0 && guests.get(i).hour == gone) {
                    comes(i);
                }
            }
            for (Guest g : guests) {
                if (g.status == 1) {
                    g.work = Math.max(0, g.work - g.speed);
                }
            }
            for (int i = 0; i < guests.size(); i++) {
                Guest g = guests.get(i);
                if (g.status == 1 && i != cap && g.work == 0) {
                    g.status = 2;
                    for (int j : g.saw) {
                        g.coins += guests.get(j).tip;
                    }
                    if (g.seer != NONE) {
                        int half = g.coins / 2;
                        g.coins -= half;
                        guests.get(g.seer).coins += half;
                    }
                }
            }
            gone++;
        }

        boolean allDone() {
            for (int i = 0; i < guests.size(); i++) {
                int s = guests.get(i).status;
                if (s == 0 || s == 1 && i != cap) {
                    return false;
                }
            }
            return true;
        }

        int doneBehind() {
            Hotel h = twin();
            for (int k = 0; k <= 99; k++) {
                if (h.allDone()) {
                    return k;
                }
                h.hour();
            }
            return NONE;
        }

        int freeBehind(int g) {
            Hotel h = twin();
            for (int k = 0; k <= 99; k++) {
                if (h.guests.get(g).status == 2) {
                    return k;
                }
                h.hour();
            }
            return NONE;
        }

        int task(int g) {
            Hotel h = twin();
            for (int k = 0; k < 50; k++) {
                h.hour();
            }
            int sum = 0;
            for (int j : h.guests.get(g).saw) {
                sum += h.guests.get(j).brings();
            }
            return sum;
        }

        List<Integer> with(int status) {
            List<Integer> found = new ArrayList<>();
            for (int i = 0; i < guests.size(); i++) {
                if (guests.get(i).status == status) {
                    found.add(i);
                }
            }
            return found;
        }
    }

    private final StringBuilder text = new StringBuilder();
    private Hotel laid;
    private Hotel hotel;
    private final Deque<Hotel> past = new ArrayDeque<>();
    private final Deque<Hotel> kept = new ArrayDeque<>();
    private final List<int[]> seen = new ArrayList<>();

    Model() {
        text.append("g0,2,10,4,3;g1,4,8,9,2;g2,5,6,0,1;g0,7,12,5,4;g3,7,9,2,2;g0,15,5,6,3;"
            + "r2;r5;r1;r4;r0;r3;");
        lay();
        text.setLength(0);
    }

    int write(int letter) {
        if (letter < 32 || letter > 126) {
            return BAD;
        }
        if (text.length() == 200) {
            return FULL;
        }
        text.append((char) letter);
        return text.length();
    }

    int wipe() {
        int n = text.length();
        text.setLength(0);
        return n;
    }

    private static final Pattern GUEST =
        Pattern.compile("g(\\d\\d?),(\\d\\d?),(\\d\\d?),(\\d\\d?),(\\d\\d?);");
    private static final Pattern ROOM = Pattern.compile("r(\\d\\d?);");

    /** Reads THE TEXT into a hotel; the last element of faults tells the fault, if any. */
    private Hotel read(List<Integer> faults) {
        Hotel h = new Hotel();
        List<Integer> rooms = new ArrayList<>();
        int at = 0;
        while (at < text.length()) {
            Matcher g = GUEST.matcher(text).region(at, text.length());
            Matcher r = ROOM.matcher(text).region(at, text.length());
            if (g.lookingAt() && h.guests.size() < 7 && in(g, 1, 0, 3) && in(g, 2, 0, 40)
                && in(g, 3, 1, 30) && in(g, 4, 0, 20) && in(g, 5, 1, 9)) {
                Guest one = new Guest();
                one.kind = Integer.parseInt(g.group(1));
                one.hour = Integer.parseInt(g.group(2));
                one.need = Integer.parseInt(g.group(3));
                one.tip = Integer.parseInt(g.group(4));
                one.speed = Integer.parseInt(g.group(5));
                h.guests.add(one);
                at = g.end();
            } else if (r.lookingAt() && rooms.size() < 7 && in(r, 1, 0, 9)) {
                rooms.add(Integer.parseInt(r.group(1)));
                at = r.end();
            } else {
                faults.add(at);
                return h;
            }
        }
        for (int i = 0; i < h.guests.size() && i < rooms.size(); i++) {
            h.guests.get(i).far = rooms.get(i);
        }
        return h;
    }

    private static boolean in(Matcher m, int group, int least, int most) {
        int n = Integer.parseInt(m.group(group));
        return n >= least && n <= most;
    }

    int fault() {
        List<Integer> faults = new ArrayList<>();
        read(faults);
        return faults.isEmpty() ? NONE : faults.get(0);
    }

    int lay() {
        List<Integer> faults = new ArrayList<>();
        Hotel h = read(faults);
        if (!faults.isEmpty() || h.guests.isEmpty()) {
            return NO;
        }
        laid = h;
        hotel = h.twin();
        past.clear();
        kept.clear();
        seen.clear();
        return h.guests.size();
    }

    private boolean no(int g) {
        return g < 0 || g >= hotel.guests.size();
    }

    int guest(int g, int what) {
        if (no(g) || what < 0 || what > 3) {
            return BAD;
        }
        Guest one = laid.guests.get(g);
        return new int[] {one.kind, one.need, one.tip, one.speed}[what];
    }

    int state(int g, int what) {
        if (no(g) || what < 0 || what > 6) {
            return BAD;
        }
        Guest one = hotel.guests.get(g);
        int bits = 0;
        for (int j : one.saw) {
            bits += 1 << j;
        }
        return new int[] {one.status, one.hour, one.far, one.work, one.seer, bits, one.coins}[what];
    }

    private void act() {
        past.addLast(hotel.twin());
        if (past.size() > 8) {
            past.removeFirst();
        }
    }

    int pass(int n) {
        if (n < 1 || n > 24) {
            return BAD;
        }
        act();
        for (int i = 0; i < n; i++) {
            hotel.hour();
        }
        return hotel.gone;
    }

    private boolean booked(int g) {
        return hotel.guests.get(g).status == 0;
    }

    int book(int g, int h) {
        if (no(g) || h < 0 || h > 40) {
            return BAD;
        }
        if (!booked(g) || h < hotel.gone) {
            return NO;
        }
        act();
        int was = hotel.guests.get(g).hour;
        hotel.guests.get(g).hour = h;
        return was;
    }

    int call(int g) {
        if (no(g)) {
            return BAD;
        }
        if (!booked(g)) {
            return NO;
        }
        act();
        hotel.guests.get(g).status = 3;
        return hotel.with(0).size();
    }

    int change(int g, int j) {
        if (no(g) || no(j) || g == j) {
            return BAD;
        }
        if (!booked(g) || !booked(j)) {
            return NO;
        }
        act();
        int f = hotel.guests.get(g).far;
        hotel.guests.get(g).far = hotel.guests.get(j).far;
        hotel.guests.get(j).far = f;
        return hotel.guests.get(g).far;
    }

    int undo() {
        if (past.isEmpty()) {
            return NO;
        }
        hotel = past.removeLast();
        return past.size();
    }

    int freed(int g) {
        return no(g) ? BAD : hotel.freeBehind(g);
    }

    int task(int g) {
        return no(g) ? BAD : hotel.task(g);
    }

    int early(int g, int what) {
        if (no(g) || what < 0 || what > 1) {
            return BAD;
        }
        if (!booked(g)) {
            return NO;
        }
        int which = NONE;
        int least = Integer.MAX_VALUE;
        for (int h = hotel.gone; h <= 40; h++) {
            Hotel t = hotel.twin();
            t.guests.get(g).hour = h;
            if (t.task(g) < least) {
                least = t.task(g);
                which = h;
            }
        }
        return which == NONE ? NONE : what == 0 ? which : least;
    }

    int done() {
        return hotel.doneBehind();
    }

    private int[] bestWay;
    private int bestHours;

    private void deals(List<Integer> who, int depth, int[] owner, boolean[] used) {
        if (depth == who.size()) {
            Hotel t = hotel.twin();
            for (int i = 0; i < who.size(); i++) {
                t.guests.get(who.get(i)).far = hotel.guests.get(owner[i]).far;
            }
            int d = t.doneBehind();
            if (d != NONE && d < bestHours) {
                bestHours = d;
                bestWay = owner.clone();
            }
            return;
        }
        for (int i = 0; i < who.size(); i++) {
            if (!used[i]) {
                used[i] = true;
                owner[depth] = who.get(i);
                deals(who, depth + 1, owner, used);
                used[i] = false;
            }
        }
    }

    int deal(int g) {
        if (g != -1 && no(g)) {
            return BAD;
        }
        List<Integer> who = hotel.with(0);
        if (who.isEmpty()) {
            return g == -1 ? hotel.doneBehind() : NONE;
        }
        bestWay = null;
        bestHours = Integer.MAX_VALUE;
        deals(who, 0, new int[who.size()], new boolean[who.size()]);
        if (bestWay == null) {
            return NONE;
        }
        if (g == -1) {
            return bestHours;
        }
        return who.contains(g) ? bestWay[who.indexOf(g)] : NONE;
    }

    int off(int what) {
        if (what < 0 || what > 1) {
            return BAD;
        }
        int which = NONE;
        int hours = Integer.MAX_VALUE;
        for (int g : hotel.with(0)) {
            Hotel t = hotel.twin();
            t.guests.get(g).status = 3;
            int d = t.doneBehind();
            if (d != NONE && d < hours) {
                hours = d;
                which = g;
            }
        }
        return which == NONE ? NONE : what == 0 ? which : hours;
    }

    int see(int g, int c) {
        if (no(g) || c < 0 || c > 200) {
            return BAD;
        }
        if (seen.size() == 7) {
            return FULL;
        }
        seen.add(new int[] {g, c});
        return seen.size();
    }

    int forget() {
        int n = seen.size();
        seen.clear();
        return n;
    }

    private int fitting;
    private int[] firstFit;

    private void tryOrders(int[] order, int depth) {
        int n = order.length;
        if (depth == n) {
            if (fits(order)) {
                if (fitting == 0) {
                    firstFit = order.clone();
                }
                fitting++;
            }
            return;
        }
        for (int g = 0; g < n; g++) {
            boolean used = false;
            for (int i = 0; i < depth; i++) {
                used |= order[i] == g;
            }
            if (!used) {
                order[depth] = g;
                tryOrders(order, depth + 1);
            }
        }
    }

    /** Lets them come one behind the other, with as many hours between as it takes. */
    private boolean fits(int[] order) {
        Hotel t = laid.twin();
        for (int i = 0; i < order.length; i++) {
            t.guests.get(i).far = hotel.guests.get(i).far;
            t.guests.get(i).hour = -1;
        }
        for (int g : order) {
            t.guests.get(g).hour = t.gone;
            do {
                t.hour();
            } while (t.guests.stream().anyMatch(o -> o.work > 0));
        }
        for (int[] s : seen) {
            if (t.guests.get(s[0]).coins != s[1]) {
                return false;
            }
        }
        return true;
    }

    int orders(int k) {
        if (k != -1 && no(k)) {
            return BAD;
        }
        fitting = 0;
        tryOrders(new int[hotel.guests.size()], 0);
        if (k == -1) {
            return fitting;
        }
        return fitting == 0 ? NONE : firstFit[k];
    }

    int absent(int g, int x, int part) {
        if (no(g) || x < 0 || x > 10 || part < 0 || part > 1) {
            return BAD;
        }
        List<Integer> who = hotel.with(0);
        BigInteger above = absentSum(hotel, who, 0, g, x);
        BigInteger below = BigInteger.TEN.pow(who.size());
        BigInteger common = above.gcd(below);
        return (part == 0 ? above : below).divide(common).intValueExact();
    }

    private BigInteger absentSum(Hotel h, List<Integer> who, int depth, int g, int x) {
        if (depth == who.size()) {
            return h.freeBehind(g) == NONE ? BigInteger.ZERO : BigInteger.ONE;
        }
        Hotel without = h.twin();
        without.guests.get(who.get(depth)).status = 3;
        BigInteger away = absentSum(without, who, depth + 1, g, x);
        BigInteger there = absentSum(h, who, depth + 1, g, x);
        return away.multiply(BigInteger.valueOf(x)).add(there.multiply(BigInteger.valueOf(10 - x)));
    }

    int season(int z, int n, int what) {
        if (z < 0 || z > 9999 || n < 1 || n > 60 || what < 0 || what > 1) {
            return BAD;
        }
        Model m = new Model();
        m.laid = laid;
        m.hotel = hotel.twin();
        int many = hotel.guests.size();
        for (int k = 0; k < n; k++) {
            BigInteger x = BigInteger.valueOf(7919L * z + 6151L * k + 1);
            int draw = x.multiply(x).mod(BigInteger.valueOf(65521)).intValueExact();
            int g = (draw / 8) % many;
            if (draw % 8 == 0) {
                m.book(g, Math.min(40, m.hotel.gone + (draw / 64) % 8));
            } else if (draw % 8 == 1) {
                m.call(g);
            } else if (draw % 8 == 2) {
                m.change(g, (draw / 64) % many);
            }
            m.hotel.hour();
        }
        return what == 0 ? m.hotel.with(2).size() : m.count(7);
    }

    int keep() {
        if (kept.size() == 2) {
            return FULL;
        }
        kept.addLast(hotel.twin());
        return kept.size();
    }

    int back() {
        if (kept.isEmpty()) {
            return NO;
        }
        hotel = kept.removeLast();
        past.clear();
        return kept.size();
    }

    int count(int what) {
        switch (what) {
            case 0: return hotel.guests.size();
            case 1: return hotel.gone;
            case 2: return hotel.with(0).size();
            case 3: return hotel.with(1).size();
            case 4: return hotel.with(2).size();
            case 5: return hotel.with(3).size();
            case 6: return hotel.cap;
            case 7: return hotel.guests.stream().mapToInt(g -> g.coins).sum();
            case 8: return hotel.guests.stream().mapToInt(g -> g.work).sum();
            case 9: return seen.size();
            case 10: return past.size();
            case 11: return kept.size();
            case 12: return text.length();
            default: return BAD;
        }
    }
}
