/** What the class is, told in one hotel from its text to its end, and what is not promised. */
final class WholeSentences extends Sentences {
    /** 0 sees to 1, who brings 6 x 2 + 3, and 1 to the baby and to the widowed one; 4 comes late. */
    private static final String STORY = "g0,1,5,4,4;g1,2,6,9,5;g2,4,4,3,1;g3,6,9,10,2;g0,20,7,8,9;r2;r3;r1;r4;r9;";

    private final NextBellboy x = new NextBellboy();

    WholeSentences(Checks checks, Quotes quotes) {
        super(checks, quotes);
    }

    @Override
    void run() {
        toldInAText();
        guestsAndRooms();
        hours();
        whoWearsTheCap();
        whatComes();
        acts();
        inWhichOrder();
        chances();
        oneSeesToTheNext();
        notPromised();
    }

    private void toldInAText() {
        says("what", "told in a text with the first fault:");
        Hotels.put(x, STORY + "g0,20,7,8,0;r10;");
        due("fault()", x.fault(), STORY.length());
        due("lay()", x.lay(), NO);
        due("wipe()", x.wipe(), STORY.length() + 16);
        Hotels.put(x, STORY);
        due("fault()", x.fault(), NONE);
        due("lay()", x.lay(), 5);
    }

    private void guestsAndRooms() {
        says("what", "guests by kind, the hour of their coming, what they need, what they tip, how fast they are, rooms by "
            + "how far they are;");
        int[][] told = {{0, 1, 5, 4, 4, 2}, {1, 2, 6, 9, 5, 3}, {2, 4, 4, 3, 1, 1}, {3, 6, 9, 10, 2, 4}, {0, 20, 7, 8, 9, 9}};
        for (int g = 0; g < 5; g++) {
            int[] got = {x.guest(g, 0), x.state(g, 1), x.guest(g, 1), x.guest(g, 2), x.guest(g, 3), x.state(g, 2)};
            for (int i = 0; i < 6; i++) {
                due("guest " + g + ", number " + i, got[i], told[g][i]);
            }
        }
    }

    private void hours() {
        says("what", "hours in which guests come, are seen to, tip, are free,");
        due("keep()", x.keep(), 1);
        due("pass(2)", x.pass(2), 2);
        states("0 has come", x, 0, 1, 0, 0, 0, 0);
        due("pass(4)", x.pass(4), 6);
        // 15 of hour 2, 4 an hour: free in hour 5; the baby is free in hour 4
        states("0 was seen to by nobody, saw to 1 and is free", x, 0, 2, 1, 2, 0, 0);
        states("1 has tipped", x, 6, 9, 0, 0, 0, 0);
        due("pass(6)", x.pass(6), 12);
        // 1 has 5 of the baby, done in hour 4, and 8 of hour 6: free in hour 7, with 3 and 10, gives 6
        states("1 is free", x, 0, 2, 2, 2, 1, 0);
        states("2 and 3 have tipped", x, 6, 9 + 6, 7, 0, 0, 0);
    }

    private void whoWearsTheCap() {
        says("what", "who wears the cap, who sees to whom, how much is left, what each has;");
        due("who wears the cap", x.count(6), 3);
        states("who saw to it", x, 4, NONE, 0, 1, 1, NONE);
        states("to whom it saw", x, 5, 2, 4 + 8, 0, 0, 0);
        due("what all have", x.count(7), 22);
        due("pass(9)", x.pass(9), 21);
        due("how much is left of 16", x.state(3, 3), 14);
        due("how much is left in all", x.count(8), 14);
        due("back()", x.back(), 0);
        due("hour 0 again", x.count(1), 0);
    }

    private void whatComes() {
        says("what", "when one is free, how much one will have to do, when one should come so as to do least, when all is "
            + "done, in which rooms they should be so that it is soonest, who should be called off;");
        int[] free = {6, 8, 5, 28, NONE};
        int[] tasks = {15, 5 + 8, 0, 16, 0};
        for (int g = 0; g < 5; g++) {
            due("freed(" + g + ")", x.freed(g), free[g]);
            due("task(" + g + ")", x.task(g), tasks[g]);
        }
        // 4 comes last, with nothing to do: 3 would have that behind it, and so in hour 21
        due("early(3, 0)", x.early(3, 0), 21);
        due("early(3, 1)", x.early(3, 1), 0);
        due("done()", x.done(), 28);
        // 3 does 2 an hour, behind hour 20: with room 1 guest 4 brings 8 and 3 is free behind 24
        due("deal(-1)", x.deal(-1), 24);
        due("deal(4)", x.deal(4), 2);
        due("off(0): the last", x.off(0), 4);
        due("off(1)", x.off(1), 8);
    }

    private void acts() {
        says("what", "bookings changed, called off, rooms changed, undone;");
        due("change(2, 4)", x.change(2, 4), 9);
        due("done() as dealt", x.done(), 24);
        due("call(4)", x.call(4), 4);
        // 1 has 13 of the baby by now, 3 left of them as 8 come in hour 6: free behind 9
        due("done() without 4", x.done(), 9);
        due("book(3, 21)", x.book(3, 21), 6);
        due("done() with 3 so late", x.done(), 23);
        due("undo()", x.undo(), 2);
        due("undo()", x.undo(), 1);
        due("undo()", x.undo(), 0);
        due("done() as at first", x.done(), 28);
    }

    private void inWhichOrder() {
        says("what", "in which order they came by what they have;");
        x.keep();
        Hotels.pass(x, 48);
        states("in the end", x, 6, 9 + 6, 7 + 4, 0, 4, 0);
        int[] has = {15, 11, 0, 4, 0};
        for (int g = 0; g < 5; g++) {
            due("see(" + g + ", " + has[g] + ")", x.see(g, has[g]), g + 1);
        }
        due("orders(-1)", x.orders(-1), 1);
        for (int k = 0; k < 5; k++) {
            due("orders(" + k + ")", x.orders(k), k);
        }
        due("forget()", x.forget(), 5);
        due("any order", x.orders(-1), 120);
        x.back();
    }

    private void chances() {
        says("what", "guests who do not come by chance, seasons by draws, houses kept.");
        // 3 is free if it comes and 4 does
        due("absent(3, 2, 0)", x.absent(3, 2, 0), 16);
        due("absent(3, 2, 1)", x.absent(3, 2, 1), 25);
        int idle = Draws.seasonWith(Draws::idle, Draws::idle, Draws::idle, Draws::idle, Draws::idle, Draws::idle,
            Draws::idle, Draws::idle);
        due("an idle season: free", x.season(idle, 8, 0), 3);
        due("an idle season: coins", x.season(idle, 8, 1), 22);
        due("keep()", x.keep(), 1);
        x.pass(24);
        due("back()", x.back(), 0);
        due("as it was kept", x.count(1), 0);
    }

    private void oneSeesToTheNext() {
        says("what", "One guest is the next one's bellboy: in that hotel nobody is staff, but each has, for the first night, "
            + "to see to whoever comes after, and is then free, to be grand,");
        NextBellboy all = Hotels.laid("g0,0,1,1,1;g0,2,1,1,1;g0,4,1,1,1;g0,6,1,1,1;g0,8,1,1,1;g0,10,1,1,1;g0,12,1,1,1;");
        due("nobody is staff: the first is seen to by nobody", all.state(0, 4), NONE);
        for (int g = 0; g < 7; g++) {
            Hotels.pass(all, 1);
            due("who wears the cap", all.count(6), g);
            due("it is here", all.state(g, 0), 1);
            due("it saw to nobody yet", all.state(g, 5), 0);
            due("who saw to it", all.state(g, 4), g == 0 ? NONE : g - 1);
            if (g > 0) {
                due("the one ahead saw to it alone", all.state(g - 1, 5), 1 << g);
                due("and is free", all.state(g - 1, 0), 2);
            }
            Hotels.pass(all, 1);
        }
    }

    /** Runs one hotel with looks between, and tells all of it. */
    private static String tale(NextBellboy one) {
        StringBuilder all = new StringBuilder();
        for (int hour = 0; hour < 5; hour++) {
            all.append(Hotels.tells(one)).append(Hotels.looks(one)).append(one.pass(hour + 1));
        }
        return all.toString();
    }

    private void notPromised() {
        says("not", "How the state is held inside the object is free, as are the speed of each call, the text of toString "
            + "and the behaviour of equals and hashCode.");
        for (String name : new String[] {"toString", "equals", "hashCode", "clone", "finalize"}) {
            boolean own = false;
            for (java.lang.reflect.Method m : NextBellboy.class.getDeclaredMethods()) {
                own |= m.getName().equals(name);
            }
            holds("none of its own: " + name, !own);
        }

        says("not", "Use of one object from several threads at once is not promised to be safe.");
        // but of several objects it is, as they share nothing that changes
        String want = tale(new NextBellboy());
        String[] got = new String[8];
        Thread[] threads = new Thread[got.length];
        for (int i = 0; i < got.length; i++) {
            int at = i;
            threads[i] = new Thread(() -> got[at] = tale(at % 2 == 0 ? new NextBellboy() : Hotels.laid(STORY)));
            threads[i].start();
        }
        for (int i = 0; i < got.length; i++) {
            try {
                threads[i].join();
            } catch (InterruptedException e) {
                throw new AssertionError(e);
            }
            same("object " + i + " of its own", got[i], i % 2 == 0 ? want : tale(Hotels.laid(STORY)));
        }

        says("not", "Nothing is promised beyond the answers and state changes described above, and nothing about an object "
            + "after its 512th call.");
        NextBellboy quiet = new NextBellboy();
        NextBellboy asked = new NextBellboy();
        for (int hour = 0; hour < 20; hour++) {
            // calls that tell of it, but act on nothing, change nothing that any call tells
            Hotels.tells(asked);
            same("hour " + hour, Hotels.looks(asked), Hotels.looks(quiet));
            due("pass(1)", asked.pass(1), quiet.pass(1));
        }
    }
}
