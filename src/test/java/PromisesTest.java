/**
 * Each promise by itself: ordinary calls, the edges that the document names, and wrong
 * numbers. What is due was reckoned by hand from the document.
 *
 * Most of it happens in the first hotel, in which, nothing else being done: guest 0 comes in
 * hour 2, sees to 1 (who brings 8 x 2 + 5 = 21) in hour 4 and is free behind 11 hours; 1 sees to
 * the baby 2 (7) and to 3 (16), free behind 17; 2 is free behind 6; 3 sees to 4 (4), free behind
 * 8; 4 sees to 5 (8), free behind 19; 5 wears the cap for good. In the end they have 12, 3, 0,
 * 4, 3 and 0 coins.
 */
public final class PromisesTest {
    private static final int BAD = -1, NO = -2, FULL = -3, NONE = -4;
    private static final Checks checks = new Checks();

    public static void main(String[] args) {
        newObject();
        write();
        wipe();
        fault();
        lay();
        guest();
        state();
        coming();
        freeing();
        pass();
        book();
        call();
        change();
        undo();
        freed();
        task();
        early();
        done();
        deal();
        off();
        see();
        forget();
        orders();
        absent();
        season();
        keep();
        back();
        count();
        checks.close("PromisesTest");
    }

    private static void due(String call, int got, int want) {
        checks.due(call, got, want);
    }

    private static NextBellboy hotel() {
        return new NextBellboy();
    }

    private static NextBellboy hotel(String text) {
        return Hotels.laid(text);
    }

    /** What is due of every guest: state(g, what) for all of them. */
    private static void states(String when, NextBellboy x, int what, int... wants) {
        for (int g = 0; g < wants.length; g++) {
            due(when + ": state(" + g + ", " + what + ")", x.state(g, what), wants[g]);
        }
    }

    private static void newObject() {
        NextBellboy x = hotel();
        int[] counts = {6, 0, 6, 0, 0, 0, NONE, 0, 0, 0, 0, 0, 0};
        for (int what = 0; what < counts.length; what++) {
            due("new: count(" + what + ")", x.count(what), counts[what]);
        }
        states("new", x, 0, 0, 0, 0, 0, 0, 0);
        states("new", x, 1, 2, 4, 5, 7, 7, 15);
        states("new", x, 2, 2, 5, 1, 4, 0, 3);
        states("new", x, 3, 0, 0, 0, 0, 0, 0);
        states("new", x, 4, NONE, NONE, NONE, NONE, NONE, NONE);
        states("new", x, 5, 0, 0, 0, 0, 0, 0);
        states("new", x, 6, 0, 0, 0, 0, 0, 0);
        due("BAD", NextBellboy.BAD, -1);
        due("NO", NextBellboy.NO, -2);
        due("FULL", NextBellboy.FULL, -3);
        due("NONE", NextBellboy.NONE, -4);
        NextBellboy other = hotel();
        x.pass(24);
        Hotels.put(x, "gg");
        due("another object stays", other.count(1), 0);
        due("another object's text stays", other.count(12), 0);
    }

    private static void write() {
        NextBellboy x = hotel();
        due("write(32)", x.write(32), 1);
        due("write(126)", x.write(126), 2);
        due("write(31)", x.write(31), BAD);
        due("write(127)", x.write(127), BAD);
        due("write(-1)", x.write(-1), BAD);
        due("write(0)", x.write(0), BAD);
        due("write(256 + 'g')", x.write(256 + 'g'), BAD);
        due("write(MIN)", x.write(Integer.MIN_VALUE), BAD);
        due("write(MAX)", x.write(Integer.MAX_VALUE), BAD);
        due("a bad letter is not written", x.count(12), 2);
        for (int n = 3; n <= 200; n++) {
            due("write to " + n, x.write('r'), n);
        }
        due("the 201st", x.write('r'), FULL);
        due("a bad one when full", x.write(10), BAD);
        due("full stays full", x.count(12), 200);
    }

    private static void wipe() {
        NextBellboy x = hotel();
        due("wipe() of nothing", x.wipe(), 0);
        Hotels.put(x, "r3;");
        due("wipe()", x.wipe(), 3);
        due("wipe() again", x.wipe(), 0);
        due("behind wipe()", x.write('g'), 1);
        x.wipe();
        for (int n = 1; n <= 205; n++) {
            x.write('g');
        }
        due("wipe() of a full one", x.wipe(), 200);
        due("wipe() leaves what is laid", x.count(0), 6);
    }

    private static void faultOf(String text, int want) {
        due("fault() of " + text, Hotels.written(text).fault(), want);
    }

    private static void fault() {
        faultOf("", NONE);
        faultOf("g0,2,10,4,3;", NONE);
        faultOf("r0;", NONE);
        faultOf("r9;g3,40,30,20,9;", NONE);
        faultOf("g0,0,1,0,1;g00,02,01,00,01;r00;r09;", NONE);
        faultOf("g4,2,10,4,3;", 0);
        faultOf("g0,41,10,4,3;", 0);
        faultOf("g0,2,0,4,3;", 0);
        faultOf("g0,2,31,4,3;", 0);
        faultOf("g0,2,10,21,3;", 0);
        faultOf("g0,2,10,4,0;", 0);
        faultOf("g0,2,10,4,10;", 0);
        faultOf("g0,2,10,4,003;", 0);
        faultOf("g0,2,010,4,3;", 0);
        faultOf("g0,2,10,4;", 0);
        faultOf("g0,2,10,4,3,1;", 0);
        faultOf("g0,2,10,,3;", 0);
        faultOf("g,0,2,10,4,3;", 0);
        faultOf("g0;2,10,4,3;", 0);
        faultOf("g-1,2,10,4,3;", 0);
        faultOf("G0,2,10,4,3;", 0);
        faultOf(" g0,2,10,4,3;", 0);
        faultOf("g0, 2,10,4,3;", 0);
        faultOf("g", 0);
        faultOf(";", 0);
        faultOf("r10;", 0);
        faultOf("r;", 0);
        faultOf("r", 0);
        faultOf("r1,2;", 0);
        faultOf("r3;g0,2,10,4,3", 3);
        faultOf("r3;g0,2,10,4,3;;", 15);
        faultOf("r3;r3 ;", 3);
        faultOf("g0,2,10,4,3;g0,2,10,4,3;x", 24);
        faultOf("r1;r1;r1;r1;r1;r1;r1;", NONE);
        faultOf("r1;r1;r1;r1;r1;r1;r1;r1;", 21);
        String guests = "g0,0,1,0,1;".repeat(7);
        faultOf(guests, NONE);
        faultOf(guests + "r1;", NONE);
        faultOf(guests + "g0,0,1,0,1;", 77);
        faultOf("g0,0,1,0,1;r1;r2;r3;", NONE);
        NextBellboy x = Hotels.written("g0,2,10,4,3");
        due("fault() of an unended item", x.fault(), 0);
        x.write(';');
        due("fault() as it is ended", x.fault(), NONE);
        due("fault() lays nothing", x.count(0), 6);
    }

    private static void lay() {
        NextBellboy x = hotel();
        x.pass(3);
        x.see(1, 3);
        x.keep();
        due("lay() of nothing", x.lay(), NO);
        Hotels.put(x, "r1;r2;");
        due("lay() without a guest", x.lay(), NO);
        x.wipe();
        Hotels.put(x, "g0,2,10,4,3;q");
        due("lay() with a fault", x.lay(), NO);
        due("NO leaves the hours", x.count(1), 3);
        due("NO leaves the guests", x.count(0), 6);
        due("NO leaves what is seen", x.count(9), 1);
        due("NO leaves what can be undone", x.count(10), 1);
        due("NO leaves what is kept", x.count(11), 1);
        due("NO leaves the cap", x.count(6), 0);
        x.wipe();
        Hotels.put(x, "r7;g3,4,9,2,5;r8;g2,6,5,1,4;r9;");
        due("lay()", x.lay(), 2);
        int[] counts = {2, 0, 2, 0, 0, 0, NONE, 0, 0, 0, 0, 0, 31};
        for (int what = 0; what < counts.length; what++) {
            due("laid: count(" + what + ")", x.count(what), counts[what]);
        }
        states("laid", x, 1, 4, 6);
        states("laid", x, 2, 7, 8);
        due("laid: guest(2, 0)", x.guest(2, 0), BAD);
        x.pass(9);
        due("lay() again", x.lay(), 2);
        due("laid again: count(1)", x.count(1), 0);
        states("laid again", x, 3, 0, 0);
        states("laid again", x, 4, NONE, NONE);
        states("laid again", x, 5, 0, 0);
        x.wipe();
        Hotels.put(x, "g0,0,1,0,9;g0,0,1,5,1;g0,0,9,5,9;");
        x.lay();
        x.pass(1);
        x.lay();
        states("laid over it", x, 0, 0, 0, 0);
        states("laid over it", x, 3, 0, 0, 0);
        states("laid over it", x, 5, 0, 0, 0);
        states("laid over it", x, 6, 0, 0, 0);
        x.wipe();
        Hotels.put(x, "r7;g3,4,9,2,5;r8;g2,6,5,1,4;r9;");
        x.lay();
        due("laid again: undo()", x.undo(), NO);
        due("laid again: back()", x.back(), NO);
        NextBellboy y = hotel("r5;g0,1,1,1,1;g0,1,1,1,1;");
        states("a room is wanting", y, 2, 5, 0);
        NextBellboy z = hotel("r9;r9;r9;g0,1,1,1,1;");
        z.wipe();
        Hotels.put(z, "g0,1,1,1,1;g0,1,1,1,1;");
        z.lay();
        states("rooms of an earlier hotel are gone", z, 2, 0, 0);
        NextBellboy seven = hotel("g0,0,1,0,1;".repeat(7));
        due("seven guests", seven.count(0), 7);
        due("seven guests, the last", seven.state(6, 0), 0);
    }

    private static void guest() {
        NextBellboy x = hotel();
        int[][] told = {{0, 10, 4, 3}, {1, 8, 9, 2}, {2, 6, 0, 1}, {0, 12, 5, 4}, {3, 9, 2, 2}, {0, 5, 6, 3}};
        for (int g = 0; g < 6; g++) {
            for (int what = 0; what < 4; what++) {
                due("guest(" + g + ", " + what + ")", x.guest(g, what), told[g][what]);
            }
            due("guest(" + g + ", 4)", x.guest(g, 4), BAD);
            due("guest(" + g + ", -1)", x.guest(g, -1), BAD);
        }
        due("guest(6, 0)", x.guest(6, 0), BAD);
        due("guest(-1, 0)", x.guest(-1, 0), BAD);
        due("guest(MAX, 0)", x.guest(Integer.MAX_VALUE, 0), BAD);
        due("guest(0, MIN)", x.guest(0, Integer.MIN_VALUE), BAD);
        x.pass(24);
        x.call(0);
        due("guest(1, 1) later", x.guest(1, 1), 8);
        NextBellboy y = hotel("g3,40,30,20,9;");
        due("guest of another hotel", y.guest(0, 1), 30);
        due("no such guest there", y.guest(1, 0), BAD);
    }

    private static void state() {
        NextBellboy x = hotel();
        x.call(2);
        x.pass(8);
        states("behind 8 hours", x, 0, 1, 1, 3, 2, 1, 0);
        states("behind 8 hours", x, 1, 2, 4, 5, 7, 7, 15);
        states("behind 8 hours", x, 2, 2, 5, 1, 4, 0, 3);
        // 21 less 3 in each of the hours 4 to 7; 16 less 2 in hour 7
        states("behind 8 hours", x, 3, 9, 14, 0, 0, 0, 0);
        states("behind 8 hours", x, 4, NONE, 0, NONE, 1, 3, NONE);
        states("behind 8 hours", x, 5, 2, 8, 0, 16, 0, 0);
        // 3 has 2 of 4 and gives 1 to 1
        states("behind 8 hours", x, 6, 0, 1, 0, 1, 0, 0);
        due("state(6, 0)", x.state(6, 0), BAD);
        due("state(-1, 0)", x.state(-1, 0), BAD);
        due("state(0, 7)", x.state(0, 7), BAD);
        due("state(0, -1)", x.state(0, -1), BAD);
        due("state(MIN, MIN)", x.state(Integer.MIN_VALUE, Integer.MIN_VALUE), BAD);
        Hotels.pass(x, 24);
        states("in the end, without the baby", x, 6, 12, 3, 0, 4, 3, 0);
    }

    /** Who comes in an hour, and what each brings. */
    private static void coming() {
        NextBellboy x = hotel("g0,0,7,0,1;g1,1,7,0,1;g3,2,7,0,1;g2,3,7,0,1;g0,3,7,0,1;r1;r2;r3;r4;r5;");
        x.pass(1);
        due("the first sees nobody", x.count(8), 0);
        due("the first wears the cap", x.count(6), 0);
        x.pass(1);
        due("a bishop brings twice, and the way", x.state(0, 3), 2 * 7 + 2 - 1);
        x.pass(1);
        due("a widowed one brings half, and the way", x.state(1, 3), 3 + 3 - 1);
        due("the cap is handed on", x.count(6), 2);
        x.pass(1);
        due("a baby and a plain one in one hour", x.state(2, 3), 7 + 4 + 7 + 5 - 1);
        due("the baby is free at once", x.state(3, 0), 2);
        due("it saw to the baby and to the next", x.state(2, 5), 8 + 16);
        due("the baby does not wear the cap", x.state(4, 4), 2);
        due("the next wears it", x.count(6), 4);
        NextBellboy baby = hotel("g2,0,9,3,1;g0,0,4,0,1;g2,1,3,5,9;");
        baby.pass(1);
        due("nobody sees to the first baby", baby.state(0, 4), NONE);
        due("nobody saw to whom the baby was ahead of", baby.state(1, 4), NONE);
        due("the first baby is free", baby.state(0, 0), 2);
        baby.pass(24);
        due("a lone wearer is never free", baby.state(1, 0), 1);
        due("and has no coins", baby.state(1, 6), 0);
        due("and nothing to do", baby.state(1, 3), 0);
        NextBellboy high = hotel("g0,5,1,0,1;g0,0,9,0,1;g0,5,3,0,1;");
        high.pass(6);
        due("the lowest comes first", high.state(0, 4), 1);
        due("the higher one behind it", high.state(2, 4), 0);
    }

    /** In which order they are freed, and what that does with the coins. */
    private static void freeing() {
        NextBellboy x = hotel("g0,2,10,4,9;g0,1,1,8,5;g0,0,1,0,9;g0,3,1,6,1;");
        x.pass(3);
        states("one is free", x, 0, 1, 1, 2, 0);
        states("one is free", x, 6, 0, 0, 8, 0);
        x.pass(1);
        // 0 first: 6 of guest 3, of them 3 to guest 1, who then has 3 + 4 and gives 3 to guest 2
        states("two in one hour", x, 6, 3, 4, 11, 0);
        states("two in one hour", x, 0, 2, 2, 2, 1);
        due("tips are nobody's loss", x.count(7), 18);
        NextBellboy quick = hotel("g0,0,1,0,9;g3,0,1,7,1;");
        quick.pass(1);
        due("nothing brought: free in that hour", quick.state(0, 0), 2);
        due("and tipped", quick.state(0, 6), 7);
        NextBellboy slow = hotel("g0,0,1,0,1;g0,0,2,7,1;");
        slow.pass(1);
        due("work left: not free", slow.state(0, 0), 1);
        due("work left: not tipped", slow.count(7), 0);
        slow.pass(1);
        due("work done: free", slow.state(0, 0), 2);
    }

    private static void pass() {
        NextBellboy x = hotel();
        due("pass(0)", x.pass(0), BAD);
        due("pass(25)", x.pass(25), BAD);
        due("pass(-1)", x.pass(-1), BAD);
        due("pass(MAX)", x.pass(Integer.MAX_VALUE), BAD);
        due("pass(MIN)", x.pass(Integer.MIN_VALUE), BAD);
        due("BAD passes nothing", x.count(1), 0);
        due("BAD is nothing to undo", x.count(10), 0);
        due("pass(1)", x.pass(1), 1);
        due("pass(24)", x.pass(24), 25);
        states("behind 25 hours", x, 6, 12, 3, 0, 4, 3, 0);
        states("behind 25 hours", x, 0, 2, 2, 2, 2, 2, 1);
        due("pass beyond the last hour", x.pass(24), 49);
        due("pass on", x.pass(24), 73);
        due("the cap stays", x.count(6), 5);
        NextBellboy last = hotel("g0,40,1,1,1;");
        Hotels.pass(last, 40);
        due("ahead of hour 40", last.state(0, 0), 0);
        last.pass(1);
        due("in hour 40", last.state(0, 0), 1);
    }

    private static void book() {
        NextBellboy x = hotel();
        due("book(0, 40)", x.book(0, 40), 2);
        due("book(0, 0)", x.book(0, 0), 40);
        due("book(0, 41)", x.book(0, 41), BAD);
        due("book(0, -1)", x.book(0, -1), BAD);
        due("book(6, 3)", x.book(6, 3), BAD);
        due("book(-1, 3)", x.book(-1, 3), BAD);
        due("state(0, 1)", x.state(0, 1), 0);
        due("what was BAD is not undone", x.count(10), 2);
        x.pass(3);
        due("book(0, 9): here", x.book(0, 9), NO);
        due("book(1, 2): gone by", x.book(1, 2), NO);
        due("book(1, 41): BAD ahead of NO", x.book(0, 41), BAD);
        due("book(1, 3): next", x.book(1, 3), 4);
        x.pass(1);
        due("it came in that hour", x.state(1, 0), 1);
        x.call(5);
        due("book(5, 20): called off", x.book(5, 20), NO);
        x.pass(1);
        due("book(2, 5)", x.book(2, 5), 5);
        x.pass(1);
        due("book(2, 9): free", x.book(2, 9), NO);
        due("NO changes nothing", x.state(2, 1), 5);
    }

    private static void call() {
        NextBellboy x = hotel();
        due("call(6)", x.call(6), BAD);
        due("call(-1)", x.call(-1), BAD);
        due("call(5)", x.call(5), 5);
        due("call(5) again", x.call(5), NO);
        due("state(5, 0)", x.state(5, 0), 3);
        due("state(5, 1)", x.state(5, 1), 15);
        x.pass(3);
        due("call(0): here", x.call(0), NO);
        due("call(1)", x.call(1), 3);
        x.pass(24);
        due("one called off does not come", x.state(1, 4), NONE);
        due("the next is seen to by another", x.state(2, 4), 0);
        due("call(2): free", x.call(2), NO);
        due("NO and BAD are nothing to undo", x.count(10), 4);
    }

    private static void change() {
        NextBellboy x = hotel();
        due("change(0, 1)", x.change(0, 1), 5);
        due("change(1, 4)", x.change(1, 4), 0);
        due("change(4, 1)", x.change(4, 1), 0);
        states("changed", x, 2, 5, 2, 1, 4, 0, 3);
        due("change(2, 2)", x.change(2, 2), BAD);
        due("change(6, 0)", x.change(6, 0), BAD);
        due("change(0, 6)", x.change(0, 6), BAD);
        due("change(-1, 0)", x.change(-1, 0), BAD);
        due("change(0, -1)", x.change(0, -1), BAD);
        x.call(5);
        due("change(5, 1): called off", x.change(5, 1), NO);
        due("change(1, 5): called off", x.change(1, 5), NO);
        due("change(5, 5): BAD ahead of NO", x.change(5, 5), BAD);
        x.pass(5);
        due("change(2, 0): here", x.change(2, 0), NO);
        due("change(0, 2): here", x.change(0, 2), NO);
        due("what the bishop brought with the changed room", x.state(0, 3), 16 + 2 - 3);
        states("NO changes nothing", x, 2, 5, 2, 1, 4, 0, 3);
        due("NO and BAD are nothing to undo", x.count(10), 5);
    }

    private static void undo() {
        NextBellboy x = hotel();
        due("undo() of nothing", x.undo(), NO);
        x.book(0, 9);
        x.call(1);
        x.change(0, 2);
        x.pass(24);
        due("four can be undone", x.count(10), 4);
        due("undo() of 24 hours", x.undo(), 3);
        due("hours are back", x.count(1), 0);
        states("hours are undone", x, 0, 0, 3, 0, 0, 0, 0);
        states("hours are undone", x, 3, 0, 0, 0, 0, 0, 0);
        states("hours are undone", x, 4, NONE, NONE, NONE, NONE, NONE, NONE);
        states("hours are undone", x, 5, 0, 0, 0, 0, 0, 0);
        due("the cap is undone", x.count(6), NONE);
        due("the coins are undone", x.count(7), 0);
        due("undo() of a change", x.undo(), 2);
        states("a change is undone", x, 2, 2, 5, 1, 4, 0, 3);
        due("undo() of a call", x.undo(), 1);
        due("a call is undone", x.state(1, 0), 0);
        due("undo() of a booking", x.undo(), 0);
        due("a booking is undone", x.state(0, 1), 2);
        due("undo() of no more", x.undo(), NO);
        for (int h = 10; h < 20; h++) {
            x.book(0, h);
        }
        due("the last eight can be", x.count(10), 8);
        for (int left = 7; left >= 0; left--) {
            due("undo() to " + left, x.undo(), left);
            due("the hour then", x.state(0, 1), 11 + left);
        }
        due("the ninth can't", x.undo(), NO);
        due("the hour of the second booking stays", x.state(0, 1), 11);
        x.see(0, 3);
        x.pass(2);
        x.see(1, 3);
        Hotels.put(x, "r");
        x.undo();
        due("what is seen stays", x.count(9), 2);
        due("the text stays", x.count(12), 1);
        x.pass(12);
        due("it goes on from there", x.state(0, 0), 1);
    }

    private static void freed() {
        NextBellboy x = hotel();
        int[] behind = {11, 17, 6, 8, 19, NONE};
        for (int g = 0; g < 6; g++) {
            due("freed(" + g + ")", x.freed(g), behind[g]);
        }
        due("freed(6)", x.freed(6), BAD);
        due("freed(-1)", x.freed(-1), BAD);
        due("nothing is done by it", x.count(1), 0);
        x.pass(7);
        int[] later = {4, 10, 0, 1, 12, NONE};
        for (int g = 0; g < 6; g++) {
            due("freed(" + g + ") behind 7 hours", x.freed(g), later[g]);
        }
        x.call(5);
        due("freed of one called off", x.freed(5), NONE);
        due("freed of the last wearer", x.freed(4), NONE);
        due("freed(0) at 99 hours", hotel(Hotels.doneBehind(99)).freed(0), 99);
        due("freed(0) at 100 hours", hotel(Hotels.doneBehind(100)).freed(0), NONE);
    }

    private static void task() {
        NextBellboy x = hotel();
        int[] tasks = {21, 23, 0, 4, 8, 0};
        for (int g = 0; g < 6; g++) {
            due("task(" + g + ")", x.task(g), tasks[g]);
        }
        due("task(6)", x.task(6), BAD);
        due("task(-1)", x.task(-1), BAD);
        x.pass(6);
        due("has seen and will see", x.task(1), 23);
        x.change(3, 5);
        due("with the room as it comes", x.task(1), 22);
        Hotels.pass(x, 24);
        due("has seen", x.task(1), 22);
        due("of one free", x.task(0), 21);
        NextBellboy y = hotel();
        y.call(1);
        due("of one called off", y.task(1), 0);
        due("whom it would have seen goes to another", y.task(0), 7 + 16);
        NextBellboy z = hotel("g0,1,3,0,1;g0,0,1,0,1;g2,3,4,0,1;");
        z.pass(2);
        due("has seen the lowest", z.task(1), 3);
        due("will see the highest", z.task(0), 4);
    }

    private static void early() {
        NextBellboy x = hotel();
        due("early(0, 0)", x.early(0, 0), 16);
        due("early(0, 1)", x.early(0, 1), 0);
        due("early(2, 0): a baby never has a task", x.early(2, 0), 0);
        // in hour 7, behind 3 and 4, nobody comes behind it
        due("early(5, 0)", x.early(5, 0), 7);
        due("early(5, 1)", x.early(5, 1), 0);
        due("early(6, 0)", x.early(6, 0), BAD);
        due("early(-1, 0)", x.early(-1, 0), BAD);
        due("early(0, 2)", x.early(0, 2), BAD);
        due("early(0, -1)", x.early(0, -1), BAD);
        due("nothing is booked by it", x.state(0, 1), 2);
        x.call(5);
        due("early(5, 0): called off", x.early(5, 0), NO);
        due("early(5, 2): BAD ahead of NO", x.early(5, 2), BAD);
        x.pass(3);
        due("early(0, 0): here", x.early(0, 0), NO);
        due("early(2, 0) from the next hour on", x.early(2, 0), 3);
        NextBellboy y = hotel("g0,20,1,0,1;g0,40,9,0,1;g0,38,30,0,1;");
        // up to hour 38 it sees to 2, then to 1; behind 1 it can't come, as the lowest comes first
        due("least, not none", y.early(0, 0), 39);
        due("how much is least", y.early(0, 1), 9);
        NextBellboy z = hotel("g0,20,1,0,1;g0,40,9,0,1;g0,38,4,0,1;");
        due("of several hours the earliest", z.early(0, 0), 0);
        due("how much then", z.early(0, 1), 4);
        due("behind all others", z.early(2, 0), 40);
        due("nothing to do then", z.early(2, 1), 0);
    }

    private static void done() {
        NextBellboy x = hotel();
        due("done()", x.done(), 19);
        x.pass(10);
        due("done() behind 10 hours", x.done(), 9);
        x.pass(24);
        due("done() when all is done", x.done(), 0);
        NextBellboy lone = hotel("g0,7,1,0,1;");
        due("done() as the only one comes", lone.done(), 8);
        lone.call(0);
        due("done() with all called off", lone.done(), 0);
        NextBellboy baby = hotel("g2,7,1,0,1;");
        due("done() of a baby", baby.done(), 8);
        due("the wearer's work does not count", hotel("g0,0,1,0,1;g2,3,30,0,1;").done(), 4);
        due("done() at 99 hours", hotel(Hotels.doneBehind(99)).done(), 99);
        due("done() at 100 hours", hotel(Hotels.doneBehind(100)).done(), NONE);
    }

    private static void deals(String when, NextBellboy x, int hours, int... owners) {
        due(when + ": deal(-1)", x.deal(-1), hours);
        for (int g = 0; g < owners.length; g++) {
            due(when + ": deal(" + g + ")", x.deal(g), owners[g]);
        }
    }

    private static void deal() {
        // guest 0 sees to 1, and 1 to 2, both slow; the way of 0 counts for nothing
        NextBellboy x = hotel("g0,0,1,0,1;g0,1,5,0,1;g0,1,1,0,9;r0;r9;r0;");
        due("done() without a deal", x.done(), 15);
        deals("three rooms", x, 6, 1, 0, 2);
        due("deal(3)", x.deal(3), BAD);
        due("deal(-2)", x.deal(-2), BAD);
        states("nothing is dealt by it", x, 2, 0, 9, 0);
        x.change(0, 1);
        deals("behind a change", x, 6, 0, 1, 2);
        x.undo();
        deals("behind undo()", x, 6, 1, 0, 2);
        x.book(0, 40);
        // 1 sees to 2 in hour 1, 2 to 0 in hour 40: as soon as 0 comes, whatever the rooms
        deals("behind a booking", x, 41, 0, 1, 2);
        x.undo();
        x.keep();
        x.call(2);
        deals("behind a call", x, 6, 1, 0, NONE);
        x.back();
        deals("behind back()", x, 6, 1, 0, 2);
        x.pass(1);
        // 0 is here: 9 for 1 and 0 for 2, or the other way; 5 in hour 1, or 10 for guest 1
        deals("behind an hour", x, 10, NONE, 2, 1);
        x.pass(1);
        deals("nobody is booked", x, 13, NONE, NONE, NONE);
        NextBellboy never = hotel("g0,0,1,0,1;g2,0,30,0,1;g1,0,30,0,1;g0,20,1,0,1;r5;r5;r5;r5;");
        deals("there is no way", never, NONE, NONE, NONE, NONE, NONE);
        due("there is no way: deal(4)", never.deal(4), BAD);
        // as it is 100 hours, with the farthest room for guest 0 but 30 + 60 + 1
        NextBellboy once = hotel(Hotels.doneBehind(100));
        due("done() without a deal is none", once.done(), NONE);
        deals("a deal where there was none", once, 91, 2, 0, 1);
        NextBellboy gone = hotel("g0,0,1,0,1;g2,0,30,0,1;g1,0,30,0,1;r9;r9;r9;");
        gone.pass(1);
        deals("nobody is booked, and it is never done", gone, NONE, NONE, NONE, NONE);
        NextBellboy alike = hotel("g0,3,1,0,1;g0,2,1,0,1;g0,1,1,0,1;r4;r4;r4;");
        deals("of several ways the first", alike, 8, 0, 1, 2);
        x.wipe();
        Hotels.put(x, "g0,9,1,0,1;");
        x.lay();
        deals("laid anew", x, 10, 0);
    }

    private static void off() {
        NextBellboy x = hotel();
        due("off(0)", x.off(0), 4);
        due("off(1)", x.off(1), 17);
        due("off(2)", x.off(2), BAD);
        due("off(-1)", x.off(-1), BAD);
        due("nobody is called off by it", x.count(5), 0);
        Hotels.pass(x, 20);
        due("nobody is booked: off(0)", x.off(0), NONE);
        due("nobody is booked: off(1)", x.off(1), NONE);
        due("nobody is booked: off(2)", x.off(2), BAD);
        NextBellboy one = hotel("g0,9,1,0,1;");
        due("the only one", one.off(0), 0);
        due("all is done at once", one.off(1), 0);
        NextBellboy never = hotel("g0,0,1,0,1;g2,0,30,0,1;g1,0,30,0,1;g0,20,1,0,1;r9;r9;r9;r9;");
        never.pass(1);
        due("done by none: off(0)", never.off(0), NONE);
        due("done by none: off(1)", never.off(1), NONE);
        // behind an hour guest 0 has 99 or 100 to do, and 3 is booked
        NextBellboy last = hotel(Hotels.doneBehind(100) + "g0,20,1,0,1;");
        last.pass(1);
        due("99 hours: off(0)", last.off(0), 3);
        due("99 hours: off(1)", last.off(1), 99);
        NextBellboy late = hotel(Hotels.doneBehind(101) + "g0,20,1,0,1;");
        late.pass(1);
        due("100 hours: off(0)", late.off(0), NONE);
        due("100 hours: off(1)", late.off(1), NONE);
        NextBellboy alike = hotel("g2,5,1,0,1;g2,5,1,0,1;g2,9,1,0,1;g2,9,1,0,1;");
        due("of several the lowest", alike.off(0), 0);
        due("of several: hours", alike.off(1), 10);
    }

    private static void see() {
        NextBellboy x = hotel();
        due("see(6, 0)", x.see(6, 0), BAD);
        due("see(-1, 0)", x.see(-1, 0), BAD);
        due("see(0, -1)", x.see(0, -1), BAD);
        due("see(0, 201)", x.see(0, 201), BAD);
        due("see(0, 0)", x.see(0, 0), 1);
        due("see(0, 200)", x.see(0, 200), 2);
        due("see(0, 200) again", x.see(0, 200), 3);
        due("see(5, 1)", x.see(5, 1), 4);
        due("see(5, 2)", x.see(5, 2), 5);
        due("see(5, 3)", x.see(5, 3), 6);
        due("see(5, 4)", x.see(5, 4), 7);
        due("the eighth", x.see(5, 5), FULL);
        due("a bad one when full", x.see(6, 5), BAD);
        due("count(9)", x.count(9), 7);
        due("it is nothing to undo", x.count(10), 0);
    }

    private static void forget() {
        NextBellboy x = hotel();
        due("forget() of nothing", x.forget(), 0);
        x.see(0, 199);
        x.see(1, 3);
        due("no order fits", x.orders(-1), 0);
        due("forget()", x.forget(), 2);
        due("forget() again", x.forget(), 0);
        due("all orders fit", x.orders(-1), 720);
        due("see() behind it", x.see(2, 2), 1);
    }

    private static void orders() {
        NextBellboy x = hotel();
        due("orders(-1) with nothing seen", x.orders(-1), 720);
        for (int k = 0; k < 6; k++) {
            due("orders(" + k + ")", x.orders(k), k);
        }
        due("orders(6)", x.orders(6), BAD);
        due("orders(-2)", x.orders(-2), BAD);
        x.see(0, 9);
        due("orders(-1) with 9 of guest 0", x.orders(-1), 12);
        NextBellboy y = hotel("g0,1,1,10,1;g0,2,1,4,1;g2,3,1,6,1;");
        // 0 1 2: 0 has 4. 0 2 1: 10. 1 0 2: 1 has 10. 1 2 0: 1 has 16. 2 0 1: 0 has 4. 2 1 0: 1 has 10
        y.see(0, 4);
        due("two orders fit", y.orders(-1), 2);
        due("the first: 0", y.orders(0), 0);
        due("the first: 1", y.orders(1), 1);
        due("the first: 2", y.orders(2), 2);
        y.see(1, 10);
        due("not both", y.orders(-1), 0);
        due("none is first", y.orders(0), NONE);
        due("no such place ahead of none", y.orders(3), BAD);
        y.forget();
        y.see(1, 16);
        due("one order fits", y.orders(-1), 1);
        due("the only: 0", y.orders(0), 1);
        due("the only: 1", y.orders(1), 2);
        due("the only: 2", y.orders(2), 0);
        y.call(1);
        y.pass(24);
        due("whatever became of them", y.orders(-1), 1);
        y.forget();
        y.see(2, 0);
        due("a baby has nothing in any order", y.orders(-1), 6);
        y.see(2, 1);
        due("two that do not agree", y.orders(-1), 0);
        NextBellboy z = hotel("g0,1,1,1,1;g0,2,1,8,1;g0,3,1,5,1;");
        // 0 1 2: 1 has 5 and gives 2 to 0, who has 8
        z.see(0, 10);
        z.see(1, 3);
        due("halves go up, cut", z.orders(-1), 1);
        due("halves go up: the first", z.orders(0), 0);
        z.wipe();
        Hotels.put(z, "g0,1,1,1,1;");
        z.lay();
        due("laid anew", z.orders(-1), 1);
        due("laid anew: the first", z.orders(0), 0);
        due("laid anew: BAD", z.orders(1), BAD);
    }

    private static void chance(String when, NextBellboy x, int g, int tenths, int above, int below) {
        due(when + ": absent(" + g + ", " + tenths + ", 0)", x.absent(g, tenths, 0), above);
        due(when + ": absent(" + g + ", " + tenths + ", 1)", x.absent(g, tenths, 1), below);
    }

    private static void absent() {
        NextBellboy x = hotel("g0,0,1,0,1;g0,5,1,0,1;");
        chance("both must come", x, 0, 3, 49, 100);
        chance("both must come", x, 0, 5, 1, 4);
        chance("both must come", x, 0, 0, 1, 1);
        chance("both must come", x, 0, 10, 0, 1);
        chance("both must come", x, 0, 8, 1, 25);
        chance("the last is never free", x, 1, 3, 0, 1);
        due("absent(2, 3, 0)", x.absent(2, 3, 0), BAD);
        due("absent(-1, 3, 0)", x.absent(-1, 3, 0), BAD);
        due("absent(0, 11, 0)", x.absent(0, 11, 0), BAD);
        due("absent(0, -1, 0)", x.absent(0, -1, 0), BAD);
        due("absent(0, 3, 2)", x.absent(0, 3, 2), BAD);
        due("absent(0, 3, -1)", x.absent(0, 3, -1), BAD);
        due("nobody is called off by it", x.count(2), 2);
        x.pass(1);
        chance("the other must come", x, 0, 3, 7, 10);
        x.pass(9);
        chance("nobody is booked, free", x, 0, 7, 1, 1);
        chance("nobody is booked, here", x, 1, 7, 0, 1);
        NextBellboy off = hotel("g2,0,1,0,1;g2,0,1,0,1;");
        off.call(1);
        chance("one called off", off, 1, 4, 0, 1);
        chance("a baby must come itself", off, 0, 4, 3, 5);
        chance("99 hours", hotel(Hotels.doneBehind(99)), 0, 0, 1, 1);
        chance("100 hours", hotel(Hotels.doneBehind(100)), 0, 0, 0, 1);
        // at 100 hours guest 0 is free as the bishop comes without the baby: 1/2 x 1/2 x 1/2
        chance("100 hours, if all come", hotel(Hotels.doneBehind(100)), 0, 5, 1, 8);
        NextBellboy seven = hotel("g0,0,1,0,9;".repeat(7));
        // guest 0 comes, and any of six others: 1/10 x (1 - (9/10)^6)
        chance("seven", seven, 0, 9, 468559, 10000000);
    }

    private static void seasons(String when, NextBellboy x, int z, int n, int free, int coins) {
        due(when + ": season(" + z + ", " + n + ", 0)", x.season(z, n, 0), free);
        due(when + ": season(" + z + ", " + n + ", 1)", x.season(z, n, 1), coins);
    }

    private static void season() {
        String two = "g0,0,1,0,9;g0,0,1,5,9;";
        // 9999 draws 51303, which is 7 modulo 8: nothing
        seasons("nothing but an hour", hotel(two), 9999, 1, 1, 5);
        // 0 draws 1: guest 0 is called off
        seasons("a call", hotel(two), 0, 1, 0, 0);
        // 42 draws 42056 = 8 x 5257 = 64 x 657 + 8: guest 1 for the hour that is next and 1
        seasons("a booking", hotel(two), 42, 1, 0, 0);
        NextBellboy here = hotel(two);
        here.pass(1);
        seasons("it can't be called off", here, 0, 1, 1, 5);
        seasons("it can't be booked", here, 42, 1, 1, 5);
        // 5 draws 56728 = 8 x 7091 = 64 x 886 + 24, then 47269 (5 modulo 8)
        NextBellboy late = hotel("g0,0,1,0,9;g0,39,1,5,9;");
        Hotels.pass(late, 39);
        seasons("40 at most", late, 5, 1, 0, 0);
        seasons("40 at most", late, 5, 2, 1, 5);
        NextBellboy soon = hotel("g0,0,1,0,9;g0,39,1,5,9;");
        soon.pass(3);
        seasons("from the hour that is next on", soon, 5, 6, 0, 0);
        // 100 draws 2474: 2 modulo 8, guest 309 modulo 2 with 38 modulo 2, then 3 modulo 8
        String rooms = "g0,0,1,0,1;g0,0,1,5,9;r0;r1;";
        // 217 draws 24946: guest 0 with 1, 2 modulo 8; then 4 modulo 8
        NextBellboy half = hotel("g0,0,1,0,1;g0,1,1,5,9;r1;r3;");
        half.pass(1);
        seasons("no change with one who is here", half, 217, 2, 0, 0);
        seasons("two hours' work", hotel(rooms), 9999, 1, 0, 0);
        seasons("a change", hotel(rooms), 100, 1, 1, 5);
        NextBellboy x = hotel();
        due("season(-1, 1, 0)", x.season(-1, 1, 0), BAD);
        due("season(10000, 1, 0)", x.season(10000, 1, 0), BAD);
        due("season(0, 0, 0)", x.season(0, 0, 0), BAD);
        due("season(0, 61, 0)", x.season(0, 61, 0), BAD);
        due("season(0, 1, 2)", x.season(0, 1, 2), BAD);
        due("season(0, 1, -1)", x.season(0, 1, -1), BAD);
        seasons("the document's own", x, 5, 60, 4, 20);
        due("nothing changes by it", x.count(1), 0);
        due("nothing to undo by it", x.count(10), 0);
        states("nothing changes by it", x, 0, 0, 0, 0, 0, 0, 0);
        states("nothing changes by it", x, 1, 2, 4, 5, 7, 7, 15);
    }

    private static void keep() {
        NextBellboy x = hotel();
        due("keep()", x.keep(), 1);
        due("it is nothing to undo", x.count(10), 0);
        x.pass(1);
        due("keep() again", x.keep(), 2);
        due("the third", x.keep(), FULL);
        due("count(11)", x.count(11), 2);
        due("keep() leaves what can be undone", x.undo(), 0);
        due("undo() leaves what is kept", x.count(11), 2);
        x.back();
        due("keep() behind back()", x.keep(), 2);
    }

    private static void back() {
        NextBellboy x = hotel();
        due("back() of nothing", x.back(), NO);
        x.keep();
        x.pass(5);
        x.call(5);
        x.keep();
        x.see(3, 3);
        Hotels.put(x, "r5");
        x.pass(24);
        x.see(4, 4);
        due("back()", x.back(), 1);
        due("as kept last: the hours", x.count(1), 5);
        states("as kept last", x, 0, 1, 1, 0, 0, 0, 3);
        states("as kept last", x, 3, 18, 0, 0, 0, 0, 0);
        due("as kept last: the cap", x.count(6), 1);
        due("as kept last: no coins", x.count(7), 0);
        due("what is seen stays", x.count(9), 2);
        due("the text stays", x.count(12), 2);
        due("nothing is undone then", x.count(10), 0);
        due("undo()", x.undo(), NO);
        x.book(3, 30);
        due("what is done then can be undone", x.undo(), 0);
        due("back() again", x.back(), 0);
        due("as kept first", x.count(1), 0);
        states("as kept first", x, 0, 0, 0, 0, 0, 0, 0);
        due("no more", x.back(), NO);
        x.keep();
        x.change(0, 1);
        x.back();
        states("a change behind keep() is gone", x, 2, 2, 5, 1, 4, 0, 3);
    }

    private static void count() {
        NextBellboy x = hotel();
        x.call(5);
        x.change(3, 4);
        x.pass(6);
        x.see(1, 2);
        x.see(1, 3);
        x.see(1, 4);
        x.keep();
        Hotels.put(x, "r1;r");
        // 0 has 21 - 3 - 3 to do, 1 saw to the baby in hour 5: 7 - 2
        int[] counts = {6, 6, 2, 2, 1, 1, 1, 0, 15 + 5, 3, 3, 1, 4};
        for (int what = 0; what < counts.length; what++) {
            due("count(" + what + ")", x.count(what), counts[what]);
        }
        due("count(13)", x.count(13), BAD);
        due("count(-1)", x.count(-1), BAD);
        due("count(MAX)", x.count(Integer.MAX_VALUE), BAD);
        Hotels.pass(x, 30);
        due("coins in the end", x.count(7), 9 + 0 + 5 + 2);
    }
}
