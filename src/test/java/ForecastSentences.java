/** Part 3 of the document's terms, and promises 13 to 18: what comes, nothing else being done. */
final class ForecastSentences extends Sentences {
    private static final String LONE = "g0,7,1,0,1;";
    /** Guest 0 has 39 and 69 to do in hour 0, however the rooms lie, and guest 3 comes in hour 20. */
    private static final String NEVER = "g0,0,1,0,1;g2,0,30,0,1;g1,0,30,0,1;g0,20,1,0,1;r9;r9;r9;r9;";

    ForecastSentences(Checks checks, Quotes quotes) {
        super(checks, quotes);
    }

    @Override
    void run() {
        freedIs0To99();
        taskIsWhatAllBring();
        earlyIsUpTo40();
        allDoneIs0To99();
        dealIsTheFirstOfTheSoonest();
        offIsTheLowestOfTheSoonest();
        nothingElseBeingDone();
        freedAnswers();
        taskAnswers();
        earlyAnswers();
        doneAnswers();
        dealAnswers();
        offAnswers();
    }

    private void freedIs0To99() {
        says("3", "FREED: behind how many HOURS (0 to 99) a GUEST is FREE first; none.");
        for (int hours = 71; hours <= 108; hours++) {
            NextBellboy x = Hotels.laid(Hotels.doneBehind(hours));
            due("free behind " + hours, x.freed(0), hours <= 99 ? hours : NONE);
            due("the baby", x.freed(1), 1);
            due("who wears the cap in the end", x.freed(2), NONE);
        }
        NextBellboy x = Hotels.laid(Hotels.doneBehind(101));
        due("101", x.freed(0), NONE);
        x.pass(1);
        due("101 less 1", x.freed(0), NONE);
        x.pass(1);
        due("101 less 2", x.freed(0), 99);
        Hotels.pass(x, 98);
        due("1", x.freed(0), 1);
        due("it is here", x.state(0, 0), 1);
        x.pass(1);
        due("0", x.freed(0), 0);
        due("it is free", x.state(0, 0), 2);
        x.pass(24);
        due("0, long since", x.freed(0), 0);
        due("a baby that comes as late as can be", Hotels.laid("g2,40,1,0,1;").freed(0), 41);
        NextBellboy off = Hotels.laid("g2,40,1,0,1;");
        off.call(0);
        due("called off", off.freed(0), NONE);
        due("seen to by nobody, and nobody behind it", Hotels.laid(LONE).freed(0), NONE);
        // work left as the next one comes, none left, and one hour's work more or less
        asItComes("g0,2,1,0,1;g2,3,9,0,1;g2,5,9,0,1;g2,6,9,0,1;g0,8,7,0,1;");
        asItComes("g0,2,1,0,2;g2,3,9,0,1;g2,5,4,0,1;g2,12,3,0,1;g0,14,7,0,1;");
        asItComes("g0,0,1,0,3;g0,1,7,0,2;g0,1,6,0,1;g0,2,8,0,4;g2,3,5,0,1;g0,9,2,0,1;r1;r2;r3;r4;");
        asItComes("g1,3,8,0,3;g3,5,3,0,1;g3,5,1,0,2;g3,6,1,0,2;g2,6,1,0,1;g1,7,5,0,1;");
        due("0 to do: in that very hour", Hotels.laid("g0,0,1,0,1;g3,4,1,0,1;").freed(0), 5);
        due("as much to do as one does: in that hour too", Hotels.laid("g0,0,1,0,9;g0,4,9,0,1;").freed(0), 5);
        due("1 more to do: in the next", Hotels.laid("g0,0,1,0,9;g0,4,10,0,1;").freed(0), 6);
        // as late as can be: the work begins in hour 40
        due("behind 41 and 58 more", Hotels.laid("g0,0,1,0,1;g1,40,29,0,1;r0;r1;").freed(0), 99);
        due("behind 41 and 59 more", Hotels.laid("g0,0,1,0,1;g1,40,29,0,1;r0;r2;").freed(0), NONE);
    }

    /** What is told in each hour, against the hours as they go by then. */
    private void asItComes(String text) {
        NextBellboy twin = Hotels.laid(text);
        int guests = twin.count(0);
        int[] free = new int[guests];
        int done = NONE;
        for (int hour = 0; hour <= 40; hour++) {
            for (int g = 0; g < guests; g++) {
                free[g] = twin.state(g, 0) == 2 ? free[g] : hour + 1;
            }
            boolean isDone = twin.count(2) == 0 && twin.count(3) == (twin.count(6) == NONE ? 0 : 1);
            done = done == NONE && isDone ? hour : done;
            twin.pass(1);
        }
        NextBellboy x = Hotels.laid(text);
        for (int hour = 0; hour <= 40; hour++) {
            for (int g = 0; g < guests; g++) {
                int due = free[g] > 40 ? NONE : Math.max(0, free[g] - hour);
                due(text + " in hour " + hour + ": freed(" + g + ")", x.freed(g), due);
            }
            due(text + " in hour " + hour + ": done()", x.done(), Math.max(0, done - hour));
            x.pass(1);
        }
    }

    private void taskIsWhatAllBring() {
        says("3", "TASK of one: what all bring to whom it SEES, has SEEN or will SEE TO, as they come.");
        NextBellboy x = Hotels.laid("g0,1,1,0,1;g2,0,9,0,1;g2,2,5,0,1;g2,3,6,0,1;g0,4,7,0,1;g0,9,8,0,1;"
            + "r9;r8;r1;r2;r3;r4;");
        int all = 6 + 8 + 10;
        for (int hours = 0; hours <= 41; hours++) {
            due("of guest 0 behind " + hours, x.task(0), all);
            due("of guest 4 behind " + hours, x.task(4), 12);
            due("of a baby", x.task(1), 0);
            due("of who wears the cap last", x.task(5), 0);
            x.pass(1);
        }
        NextBellboy most = Hotels.laid("g0,0,1,0,1;" + "g2,0,30,0,1;".repeat(5) + "g1,0,30,0,1;" + "r9;".repeat(7));
        due("the most there is", most.task(0), 5 * 39 + 69);
        due("the least of one that sees to another", Hotels.laid("g0,0,1,0,1;g3,1,1,0,1;").task(0), 0);
        due("of an only one", Hotels.laid(LONE).task(0), 0);
        NextBellboy moved = Hotels.laid("g0,0,1,0,1;g2,1,5,0,1;g2,2,5,0,1;r1;r2;r3;");
        moved.pass(2);
        moved.call(2);
        due("has seen one, and the other does not come", moved.task(0), 7);
        moved.undo();
        due("as they come", moved.task(0), 7 + 8);
        NextBellboy rooms = Hotels.laid("g0,0,1,0,1;g2,1,5,0,1;g0,2,5,0,1;r1;r2;r9;");
        rooms.change(1, 2);
        due("by the room as it is", rooms.task(0), 14 + 7);
        NextBellboy low = Hotels.laid("g0,1,5,0,1;g0,0,1,0,1;");
        low.pass(2);
        due("has seen guest 0", low.task(1), 5);
        NextBellboy late = Hotels.laid("g0,0,1,0,1;g0,40,5,0,1;");
        due("of one that comes in hour 40", late.task(0), 5);
        NextBellboy off = Hotels.laid("g0,0,1,0,1;g0,1,5,0,1;");
        off.call(0);
        due("of one called off", off.task(0), 0);
    }

    private void earlyIsUpTo40() {
        says("3", "EARLY of one that is BOOKED: the HOUR, from that which is next on to 40, such that, were it BOOKED for "
            + "it, its TASK would be least, of several the earliest: which; how much; none (no such HOUR).");
        NextBellboy lone = Hotels.laid("g0,40,1,0,1;");
        for (int hour = 0; hour <= 40; hour++) {
            due("from hour " + hour + " on", lone.early(0, 0), hour);
            due("from hour " + hour + " on: how much", lone.early(0, 1), 0);
            lone.pass(1);
        }
        due("it is here in hour 41, and there is no such hour", lone.early(0, 0), NO);
        // 1 comes in hour 40 and is lower: 2 may come behind it in hour 40 alone, 0 never
        NextBellboy x = Hotels.laid("g0,9,1,0,1;g0,40,9,0,1;g0,9,1,0,1;");
        x.call(0);
        due("in hour 40", x.early(2, 0), 40);
        due("in hour 40: how much", x.early(2, 1), 0);
        NextBellboy y = Hotels.laid("g0,9,1,0,1;g0,40,9,0,1;");
        due("always ahead: the earliest", y.early(0, 0), 0);
        due("always ahead: how much", y.early(0, 1), 9);
        y.pass(5);
        due("always ahead: the next", y.early(0, 0), 5);
        // least of three: 9 as it sees to 1, 4 between 1 and 2, and none of them 0
        NextBellboy z = Hotels.laid("g0,9,1,0,1;g0,20,9,0,1;g0,40,4,0,1;");
        due("between them: which", z.early(0, 0), 21);
        due("between them: how much", z.early(0, 1), 4);
        due("of several the earliest, wherever it is booked now", z.book(0, 35), 9);
        due("it is 21 still", z.early(0, 0), 21);
        Hotels.pass(z, 30);
        due("from hour 30 on", z.early(0, 0), 30);
        // alike: 4 ahead of both, 4 between
        NextBellboy alike = Hotels.laid("g0,9,1,0,1;g0,20,4,0,1;g0,40,4,0,1;");
        due("alike: the earliest", alike.early(0, 0), 0);
        // in hour 20 itself guest 0 comes ahead of 1, being lower, and guest 3 behind it
        NextBellboy edge = Hotels.laid("g0,30,1,0,1;g0,20,4,0,1;g0,40,9,0,1;g0,30,1,0,1;");
        edge.call(3);
        Hotels.pass(edge, 20);
        due("the lower one in the same hour: which", edge.early(0, 0), 20);
        due("the lower one in the same hour: how much", edge.early(0, 1), 4);
        NextBellboy behind = Hotels.laid("g0,20,4,0,1;g0,40,1,0,1;g0,30,9,0,1;g2,20,9,0,1;");
        Hotels.pass(behind, 20);
        behind.call(3);
        behind.call(1);
        due("the higher one in the same hour: which", behind.early(2, 0), 20);
        due("the higher one in the same hour: how much", behind.early(2, 1), 0);
    }

    private void allDoneIs0To99() {
        says("3", "ALL DONE: behind how many HOURS (0 to 99) nobody is BOOKED, and nobody HERE but who wears the CAP, "
            + "first; none.");
        for (int hours = 71; hours <= 108; hours++) {
            due("done behind " + hours, Hotels.laid(Hotels.doneBehind(hours)).done(), hours <= 99 ? hours : NONE);
        }
        NextBellboy x = Hotels.laid(Hotels.doneBehind(100));
        due("100", x.done(), NONE);
        x.pass(1);
        due("99", x.done(), 99);
        Hotels.pass(x, 98);
        due("1", x.done(), 1);
        x.pass(1);
        due("0", x.done(), 0);
        x.pass(24);
        due("0, long since", x.done(), 0);
        for (int hour : new int[] {0, 1, 39, 40}) {
            due("who comes in hour " + hour + " wears the cap", Hotels.laid("g0," + hour + ",1,0,1;").done(), hour + 1);
            due("a baby in hour " + hour, Hotels.laid("g2," + hour + ",1,0,1;").done(), hour + 1);
        }
        NextBellboy off = Hotels.laid("g0,40,1,0,1;g2,40,1,0,1;");
        off.call(0);
        due("one is booked", off.done(), 41);
        off.call(1);
        due("nobody is booked, nor here", off.done(), 0);
        due("who wears the cap may have work left", Hotels.laid("g0,0,1,0,1;g2,0,30,0,1;").done(), 1);
    }

    private void deals(String when, NextBellboy x, int hours, int... owners) {
        due(when + ": deal(-1)", x.deal(-1), hours);
        for (int g = 0; g < owners.length; g++) {
            due(when + ": deal(" + g + ")", x.deal(g), owners[g]);
        }
    }

    private void dealIsTheFirstOfTheSoonest() {
        says("3", "DEAL: of all ways for those that are BOOKED to have ROOMS that they have now together, that by which "
            + "ALL DONE is soonest,");
        // 0 sees to 1 (1 an hour), 1 to 2 (9 an hour): 1 wants the near room, 2 may have the far one
        deals("the way of 0 counts for nothing", Hotels.laid("g0,0,1,0,1;g0,0,5,0,9;g0,0,1,0,1;r0;r9;r1;"), 5, 1, 0, 2);
        deals("all the rooms alike", Hotels.laid("g0,0,1,0,1;g0,0,5,0,9;g0,0,1,0,1;r3;r3;r3;"), 8, 0, 1, 2);
        NextBellboy here = Hotels.laid("g0,0,1,0,1;g0,2,5,0,1;g0,2,9,0,1;r9;r0;r1;");
        here.pass(1);
        // whoever is here has its room and keeps it: 5 and 9 to do, with 0 and 1 or with 1 and 0
        deals("the room of who is here is not dealt", here, 10, NONE, 2, 1);
        NextBellboy off = Hotels.laid("g0,0,1,0,1;g0,0,5,0,1;g0,0,1,0,1;r9;r9;r0;");
        off.call(2);
        deals("nor is that of one called off", off, 14, 0, 1, NONE);

        says("3", "of several the first (by whose ROOM, as they are now, the lowest of them has, the lowest ahead, then "
            + "the next, ..): behind how many HOURS (nobody is BOOKED: ALL DONE as it is); whose ROOM one has; none.");
        deals("seven that do not matter", Hotels.laid("g2,5,1,0,1;".repeat(7) + "r1;r2;r3;r4;r5;r6;r7;"), 6,
            0, 1, 2, 3, 4, 5, 6);
        // 1 alone must be near (7 hours are 5 and 2): of 2 and 0 first 0 has the lowest it can
        deals("two rooms are as near", Hotels.laid("g2,8,1,0,1;g2,8,1,0,1;g0,0,1,0,1;g0,1,5,0,1;r2;r2;r2;r9;"), 9,
            0, 1, 3, 2);
        // by whose room now: behind a change guest 0 has the near room itself
        NextBellboy x = Hotels.laid("g0,0,1,0,1;g0,0,5,0,9;r0;r9;");
        deals("as told", x, 5, 1, 0);
        x.change(0, 1);
        deals("as they are now", x, 5, 0, 1);
        for (int hours = 71; hours <= 100; hours++) {
            deals("behind " + hours, Hotels.laid(Hotels.doneHoweverDealt(hours)), hours <= 99 ? hours : NONE,
                hours <= 99 ? 0 : NONE, hours <= 99 ? 1 : NONE, hours <= 99 ? 2 : NONE);
        }
        NextBellboy nobody = Hotels.laid(Hotels.doneBehind(101));
        nobody.pass(1);
        deals("nobody is booked: 100 hours", nobody, NONE, NONE, NONE, NONE);
        nobody.pass(1);
        deals("nobody is booked: 99 hours", nobody, 99, NONE, NONE, NONE);
        Hotels.pass(nobody, 99);
        deals("nobody is booked: 0 hours", nobody, 0, NONE, NONE, NONE);
        deals("as it is 100 hours, and dealt 91", Hotels.laid(Hotels.doneBehind(100)), 91, 2, 0, 1);
    }

    private void offs(String when, NextBellboy x, int which, int hours) {
        due(when + ": off(0)", x.off(0), which);
        due(when + ": off(1)", x.off(1), hours);
    }

    private void offIsTheLowestOfTheSoonest() {
        says("3", "OFF: the one that is BOOKED by CALLING which OFF ALL DONE would be soonest, of several the lowest: "
            + "which; behind how many HOURS; none.");
        offs("an only one", Hotels.laid("g0,40,1,0,1;"), 0, 0);
        offs("two alike", Hotels.laid("g2,9,1,0,1;g2,9,1,0,1;"), 0, 10);
        offs("the last to come", Hotels.laid("g2,9,1,0,1;g2,9,1,0,1;g2,11,1,0,1;g2,10,1,0,1;"), 2, 11);
        offs("the highest of seven", Hotels.laid("g2,1,1,0,1;".repeat(6) + "g2,40,1,0,1;"), 6, 2);
        // behind an hour guest 0 has 70 to 107 to do, whether guest 3 comes or not
        for (int hours : new int[] {99, 100, 101, 102}) {
            NextBellboy x = Hotels.laid(Hotels.doneBehind(hours) + "g2,20,1,0,1;");
            x.pass(1);
            offs("behind " + (hours - 1), x, hours <= 100 ? 3 : NONE, hours <= 100 ? hours - 1 : NONE);
        }
        NextBellboy x = Hotels.laid("g2,9,1,0,1;g0,0,1,0,1;");
        x.pass(10);
        offs("nobody is booked", x, NONE, NONE);
        NextBellboy some = Hotels.laid("g2,9,1,0,1;g2,9,1,0,1;");
        some.call(0);
        offs("the lowest is called off already", some, 1, 0);
    }

    private void nothingElseBeingDone() {
        says("3", "Nothing else being done:");
        NextBellboy x = Hotels.laid(Hotels.FIRST);
        x.see(1, 1);
        x.keep();
        for (int round = 0; round < 2; round++) {
            String before = Hotels.looks(x);
            String told = Hotels.tells(x);
            for (int g = 0; g < 6; g++) {
                x.early(g, 0);
                x.early(g, 1);
                x.deal(g);
            }
            same("what is told changes nothing", Hotels.looks(x), before);
            same("and is told alike again", Hotels.tells(x), told);
            x.pass(4);
        }
    }

    private void freedAnswers() {
        says("P13", "FREED. NONE; BAD.");
        NextBellboy x = Hotels.laid("g2,0,1,0,1;g0,0,1,0,1;g0,9,1,0,1;");
        due("freed(0)", x.freed(0), 1);
        due("freed(1)", x.freed(1), 10);
        due("freed(2)", x.freed(2), NONE);
        x.call(1);
        due("freed(1) of one called off", x.freed(1), NONE);
        for (int g : new int[] {MIN, -1, 3, 7, MAX}) {
            due("freed(" + g + ")", x.freed(g), BAD);
        }
    }

    private void taskAnswers() {
        says("P14", "TASK. BAD.");
        NextBellboy x = Hotels.laid("g0,0,1,0,1;g0,9,5,0,1;");
        due("task(0)", x.task(0), 5);
        due("task(1)", x.task(1), 0);
        for (int g : new int[] {MIN, -1, 2, 7, MAX}) {
            due("task(" + g + ")", x.task(g), BAD);
        }
    }

    private void earlyAnswers() {
        says("P15", "EARLY: the HOUR (what = 0), how much (1). NONE; BAD; NO: it is not BOOKED.");
        NextBellboy x = Hotels.laid("g0,9,1,0,1;g0,20,9,0,1;g0,40,4,0,1;g2,0,1,0,1;g2,1,1,0,1;");
        x.call(4);
        due("early(0, 0)", x.early(0, 0), 21);
        due("early(0, 1)", x.early(0, 1), 4);
        x.pass(1);
        int[] guests = {0, 3, 4};
        for (int g : guests) {
            for (int what : new int[] {MIN, -1, 2, MAX}) {
                due("BAD, ahead of NO too: early(" + g + ", " + what + ")", x.early(g, what), BAD);
            }
        }
        for (int g : new int[] {MIN, -1, 5, 7, MAX}) {
            due("early(" + g + ", 0)", x.early(g, 0), BAD);
            due("early(" + g + ", 2)", x.early(g, 2), BAD);
        }
        due("free: early(3, 0)", x.early(3, 0), NO);
        due("free: early(3, 1)", x.early(3, 1), NO);
        due("called off: early(4, 0)", x.early(4, 0), NO);
        x.pass(9);
        due("here: early(0, 1)", x.early(0, 1), NO);
        Hotels.pass(x, 31);
        for (int g = 0; g < 5; g++) {
            due("beyond hour 40 nobody is booked: NO ahead of NONE", x.early(g, 0), NO);
        }
    }

    private void doneAnswers() {
        says("P16", "ALL DONE. NONE.");
        due("99", Hotels.laid(Hotels.doneBehind(99)).done(), 99);
        due("100", Hotels.laid(Hotels.doneBehind(100)).done(), NONE);
        NextBellboy x = Hotels.laid(LONE);
        due("8", x.done(), 8);
        x.pass(8);
        due("0", x.done(), 0);
    }

    private void dealAnswers() {
        says("P17", "DEAL: HOURS (g = -1; NONE), whose ROOM a GUEST has (NONE: it is not BOOKED, there is no way). BAD.");
        NextBellboy x = Hotels.laid("g0,0,1,0,1;g0,9,5,0,9;g0,10,1,0,1;r9;r1;r0;");
        deals("all are booked", x, 14, 0, 2, 1);
        for (int g : new int[] {MIN, -2, 3, 7, MAX}) {
            due("deal(" + g + ")", x.deal(g), BAD);
        }
        x.pass(1);
        deals("one is here", x, 13, NONE, 2, 1);
        x.call(1);
        deals("one is called off", x, 10, NONE, NONE, 2);
        x.pass(24);
        deals("one is free", x, 0, NONE, NONE, NONE);
        NextBellboy no = Hotels.laid(NEVER);
        deals("there is no way", no, NONE, NONE, NONE, NONE, NONE);
        for (int g : new int[] {MIN, -2, 4, MAX}) {
            due("BAD ahead of NONE: deal(" + g + ")", no.deal(g), BAD);
        }
        // each act, undo() and back() deal anew
        NextBellboy y = Hotels.laid("g0,0,1,0,1;g0,0,5,0,9;r0;r9;");
        deals("at first", y, 5, 1, 0);
        y.change(0, 1);
        deals("behind a change", y, 5, 0, 1);
        y.undo();
        deals("behind undo()", y, 5, 1, 0);
        y.keep();
        y.book(1, 10);
        deals("behind a booking", y, 15, 1, 0);
        y.call(1);
        deals("behind a call", y, 1, 0, NONE);
        y.back();
        deals("behind back()", y, 5, 1, 0);
        y.pass(1);
        deals("behind an hour", y, 13, NONE, NONE);
        Hotels.relay(y, "g2,3,1,0,1;");
        deals("laid anew", y, 4, 0);
        due("laid anew: BAD", y.deal(1), BAD);
    }

    private void offAnswers() {
        says("P18", "OFF: which (what = 0), HOURS (1). NONE: nobody is BOOKED, ALL DONE is none by any; BAD.");
        NextBellboy x = Hotels.laid("g2,3,1,0,1;g2,9,1,0,1;");
        offs("two", x, 1, 4);
        for (int what : new int[] {MIN, -1, 2, MAX}) {
            due("off(" + what + ")", x.off(what), BAD);
        }
        x.pass(10);
        offs("nobody is booked", x, NONE, NONE);
        for (int what : new int[] {MIN, -1, 2, MAX}) {
            due("BAD ahead of NONE: off(" + what + ")", x.off(what), BAD);
        }
        NextBellboy off = Hotels.laid("g2,3,1,0,1;g2,9,1,0,1;");
        off.call(0);
        off.call(1);
        offs("all are called off", off, NONE, NONE);
        NextBellboy no = Hotels.laid(NEVER);
        no.pass(1);
        due("one is booked", no.count(2), 1);
        offs("none by any", no, NONE, NONE);
        due("BAD ahead of NONE", no.off(2), BAD);
        no.pass(8);
        offs("99 hours by one", no, 3, 99);
    }
}
