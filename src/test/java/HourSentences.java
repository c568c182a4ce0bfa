/** Part 2 of the document's terms, and promises 7 to 12: hours, bookings, rooms, what is undone. */
final class HourSentences extends Sentences {
    /** Guests 0 and 1 come in hours 3 and 4, guest 2 in hour 40. */
    private static final String THREE = "g0,3,5,4,1;g1,4,8,9,2;g0,40,2,6,3;r2;r5;r1;";

    HourSentences(Checks checks, Quotes quotes) {
        super(checks, quotes);
    }

    @Override
    void run() {
        atFirstAllAreBooked();
        whatAGuestBrings();
        theLowestComesFirst();
        whoWearsTheCapSeesTo();
        whoComesWearsTheCap();
        aBabyDoesNot();
        lessToDo();
        isFree();
        tips();
        givesHalf();
        zeroFirst();
        anotherHourThatHasNotGoneBy();
        isCalledOff();
        twoChangeRooms();
        theLastEightCanBe();
        stateAnswers();
        passAnswers();
        bookAnswers();
        callAnswers();
        changeAnswers();
        undoAnswers();
    }

    private void atFirstAllAreBooked() {
        says("2", "At first all GUESTS are BOOKED, nobody wears the CAP, has COINS, has anything TO DO.");
        for (int many = 1; many <= 7; many++) {
            NextBellboy x = Hotels.laid("g0,0,30,20,9;".repeat(many));
            counts(many + " guests", x, many, 0, many, 0, 0, 0, NONE, 0, 0);
            for (int g = 0; g < many; g++) {
                int[] wants = {0, 0, 0, 0, NONE, 0, 0};
                for (int what = 0; what < wants.length; what++) {
                    due("state(" + g + ", " + what + ")", x.state(g, what), wants[what]);
                }
            }
        }
    }

    /** What guest 1 brings, told ahead, and what is left of it behind the hour of its coming. */
    private void brings(int kind, int need, int far, int want) {
        NextBellboy x = Hotels.laid("g0,0,1,0,1;g" + kind + ",1," + need + ",0,1;r0;r" + far + ";");
        String who = "kind " + kind + ", needs " + need + ", " + far + " far: ";
        due(who + "task(0)", x.task(0), want);
        x.pass(2);
        due(who + "left", x.state(0, 3), Math.max(0, want - 1));
        due(who + "is free", x.state(0, 0), want <= 1 && kind != 2 ? 2 : 1);
    }

    private void whatAGuestBrings() {
        says("2", "What a GUEST brings is what it NEEDS, of a BISHOP twice that, of one WIDOWED half, cut, "
            + "and F of its ROOM.");
        for (int need = 1; need <= 30; need++) {
            for (int far = 0; far <= 9; far += 3) {
                brings(0, need, far, need + far);
                brings(1, need, far, need + need + far);
                brings(2, need, far, need + far);
                brings(3, need, far, (need - need % 2) / 2 + far);
            }
        }
        // the least and the most there is, by hand
        brings(3, 1, 0, 0);
        brings(3, 2, 0, 1);
        brings(3, 3, 0, 1);
        brings(0, 1, 0, 1);
        brings(1, 1, 0, 2);
        brings(1, 30, 9, 69);
        brings(3, 30, 9, 24);
        brings(2, 30, 9, 39);
    }

    private void theLowestComesFirst() {
        says("2", "In an HOUR, in this order: GUESTS that are BOOKED for it come, the lowest first:");
        NextBellboy x = Hotels.laid("g0,3,1,0,1;".repeat(7));
        x.pass(3);
        counts("ahead of the hour", x, 7, 3, 7, 0, 0, 0, NONE);
        x.pass(1);
        states("all seven in one hour", x, 4, NONE, 0, 1, 2, 3, 4, 5);
        states("all seven in one hour", x, 5, 2, 4, 8, 16, 32, 64, 0);
        states("all seven in one hour", x, 0, 2, 2, 2, 2, 2, 2, 1);
        due("the highest wears the cap", x.count(6), 6);
        NextBellboy y = Hotels.laid("g0,9,1,0,1;g0,1,1,0,1;g0,9,1,0,1;g0,0,1,0,1;");
        Hotels.pass(y, 10);
        states("by hours, then the lowest", y, 4, 1, 3, 0, NONE);
        NextBellboy z = Hotels.laid("g0,0,1,0,1;g0,0,1,0,1;");
        z.book(0, 1);
        z.pass(1);
        states("booked for another hour", z, 0, 0, 1);
        z.pass(1);
        due("the lower one comes behind it", z.state(0, 4), 1);
    }

    private void whoWearsTheCapSeesTo() {
        says("2", "if anybody wears the CAP, that one SEES TO who comes: what this one brings is more TO DO for it;");
        NextBellboy x = Hotels.laid("g0,0,30,0,1;g2,0,3,0,1;g2,0,4,0,1;g2,2,5,0,1;g0,2,7,0,1;r9;r0;r1;");
        x.pass(1);
        due("nobody sees to the first", x.state(0, 4), NONE);
        states("one sees to two in an hour", x, 4, NONE, 0, 0, NONE, NONE);
        states("what both bring", x, 3, 3 + 5 - 1, 0, 0, 0, 0);
        x.pass(2);
        states("more behind what is left", x, 3, 7 - 1 + 5 + 7 - 1, 0, 0, 0, 0);
        states("it saw to four", x, 5, 2 + 4 + 8 + 16, 0, 0, 0, 0);
        // who has nothing more to do is seen to work again
        NextBellboy y = Hotels.laid("g0,0,1,0,9;g2,1,2,0,1;g2,4,30,0,1;");
        y.pass(3);
        due("nothing to do", y.state(0, 3), 0);
        y.pass(2);
        due("to do again", y.state(0, 3), 21);
    }

    private void whoComesWearsTheCap() {
        says("2", "who comes wears the CAP then, and is HERE;");
        NextBellboy x = Hotels.laid("g0,0,1,0,1;g1,1,1,0,1;g3,2,1,0,1;");
        for (int g = 0; g < 3; g++) {
            due("ahead of its hour", x.state(g, 0), 0);
            x.pass(1);
            due("behind it", x.state(g, 0), 1);
            due("the cap", x.count(6), g);
        }
        x.pass(24);
        due("the cap stays where nobody comes", x.count(6), 2);
    }

    private void aBabyDoesNot() {
        says("2", "but a BABY does not wear it (the CAP stays where it is), and is FREE at once.");
        NextBellboy x = Hotels.laid("g2,0,30,20,1;".repeat(7));
        x.pass(1);
        counts("seven babies", x, 7, 1, 0, 0, 7, 0, NONE, 0, 0);
        states("seen to by none", x, 4, NONE, NONE, NONE, NONE, NONE, NONE, NONE);
        NextBellboy y = Hotels.laid("g2,0,5,3,1;g0,0,4,0,1;g2,0,6,5,9;g0,1,2,1,1;");
        y.pass(1);
        states("babies ahead and behind", y, 0, 2, 1, 2, 0);
        states("babies ahead and behind", y, 4, NONE, NONE, 1, NONE);
        due("the cap stays", y.count(6), 1);
        due("a baby brings as others do", y.state(1, 3), 5);
        y.pass(1);
        due("the next is seen to by the same", y.state(3, 4), 1);
        due("a baby has no coins", y.state(2, 6), 0);
    }

    /** What guest 0, who does so much an hour, has left of so much. */
    private void left(int speed, int brought, int hours, int want) {
        NextBellboy x = Hotels.laid("g0,0,1,0," + speed + ";g2,0," + brought + ",0,1;");
        Hotels.pass(x, hours);
        due(speed + " an hour, " + brought + " to do, behind " + hours, x.state(0, 3), want);
        due("who wears the cap is here", x.state(0, 0), 1);
    }

    private void lessToDo() {
        says("2", "Then each that is HERE, 0 first, has P less TO DO (0 at least).");
        for (int speed = 1; speed <= 9; speed++) {
            left(speed, speed, 1, 0);
            left(speed, speed + 1, 1, 1);
            left(speed, 30, 1, 30 - speed);
            left(speed, 30, 2, 30 - 2 * speed);
            left(speed, 30, 72, 0);
        }
        left(2, 1, 1, 0);
        left(9, 1, 1, 0);
        left(9, 8, 1, 0);
        left(9, 28, 3, 1);
        left(9, 28, 4, 0);
        left(9, 28, 5, 0);
        NextBellboy x = Hotels.laid("g0,0,1,0,2;g0,0,9,0,3;g0,0,30,0,1;");
        x.pass(1);
        states("each that is here", x, 3, 9 - 2, 30 - 3, 0);
        x.pass(3);
        states("each that is here", x, 3, 1, 30 - 12, 0);
        x.pass(1);
        states("0 at least", x, 3, 0, 30 - 15, 0);
    }

    private void isFree() {
        says("2", "Then each that is HERE, does not wear the CAP, has nothing TO DO any more, 0 first, is FREE:");
        NextBellboy wears = Hotels.laid("g0,0,1,0,9;g2,0,1,5,1;");
        Hotels.pass(wears, 100);
        counts("who wears the cap is not", wears, 2, 100, 0, 1, 1, 0, 0, 0, 0);
        NextBellboy x = Hotels.laid("g0,0,1,0,3;g0,0,7,5,1;");
        x.pass(2);
        due("1 is left", x.state(0, 3), 1);
        due("1 is left: here", x.state(0, 0), 1);
        due("1 is left: no coins", x.state(0, 6), 0);
        x.pass(1);
        due("0 is left: free", x.state(0, 0), 2);
        due("0 is left: coins", x.state(0, 6), 5);
        NextBellboy none = Hotels.laid("g0,0,1,0,1;g3,4,1,9,1;");
        none.pass(4);
        due("it wears the cap yet", none.state(0, 0), 1);
        none.pass(1);
        due("0 was brought: free in that hour", none.state(0, 0), 2);
        due("0 was brought: coins all the same", none.state(0, 6), 9);
        none.pass(24);
        due("once alone", none.state(0, 6), 9);
    }

    private void tips() {
        says("2", "it has of each one to whom it SAW as many COINS more as that one TIPS (who has no less by it),");
        for (int tip = 0; tip <= 20; tip++) {
            NextBellboy x = Hotels.laid("g0,0,1,0,1;g0,0,1," + tip + ",1;");
            x.pass(1);
            states("tip " + tip, x, 6, tip, 0);
        }
        NextBellboy all = Hotels.laid("g0,0,1,0,9;" + "g2,0,1,20,1;".repeat(5) + "g0,0,1,20,1;");
        all.pass(1);
        states("of six, 20 each", all, 6, 120, 0, 0, 0, 0, 0, 0);
        // guest 1 has 12 of guest 2 and gives 6 away, not more: what it tipped is not its own
        NextBellboy x = Hotels.laid("g0,0,1,0,1;g0,1,1,7,1;g0,2,1,12,1;");
        x.pass(3);
        states("who tips has no less", x, 6, 7 + 6, 6, 0);
        due("tips alone", x.count(7), 7 + 12);
        // a tip of its own does not come to who is seen to by nobody
        states("its own tip is nobody's", Hotels.laid("g0,0,1,20,1;"), 6, 0);
    }

    private void givesHalf() {
        says("2", "and gives half of all it has then, cut, to whoever SAW TO it, if anybody did.");
        for (int tip = 0; tip <= 20; tip++) {
            NextBellboy x = Hotels.laid("g0,0,1,0,1;g0,1,1,0,1;g0,2,1," + tip + ",1;");
            x.pass(2);
            due("guest 0 is free already", x.state(0, 0), 2);
            x.pass(1);
            states("half of " + tip, x, 6, tip / 2, tip - tip / 2, 0);
        }
        // 2 is slow: 3 is free first and gives it 10, so it gives half of 10 and 7, cut
        NextBellboy x = Hotels.laid("g0,0,1,0,9;g0,1,1,0,9;g0,2,30,0,1;g0,3,5,7,9;g0,4,9,20,9;");
        x.pass(5);
        states("3 has given", x, 6, 0, 0, 10, 10, 0);
        x.pass(24);
        states("2 has given half of all", x, 6, 0, 8, 9, 10, 0);
        NextBellboy all = Hotels.laid("g0,0,1,0,9;g0,0,1,9,1;");
        all.pass(1);
        states("nobody saw to it: it keeps all", all, 6, 9, 0);
        NextBellboy y = Hotels.laid("g2,0,1,0,1;g0,0,1,0,9;g0,1,1,9,1;");
        y.pass(2);
        states("a baby ahead of it saw to nobody", y, 6, 0, 9, 0);
    }

    private void zeroFirst() {
        says("2", "has nothing TO DO any more, 0 first, is FREE:");
        // A comes in hour 1 and B, to whom it sees, in hour 2: both are free in hour 3; Z saw to A, C tips 6
        NextBellboy a = Hotels.laid("g0,1,1,10,1;g0,2,2,8,1;g0,0,1,0,1;g0,3,1,6,1;");
        a.pass(3);
        states("neither yet", a, 0, 1, 1, 2, 0);
        a.pass(1);
        states("both are free", a, 0, 2, 2, 2, 1);
        states("A is lower: 8, gives 4, then has 3 of B", a, 6, 4 + 3, 3, 10 + 4, 0);
        NextBellboy b = Hotels.laid("g0,2,2,8,1;g0,1,1,10,1;g0,0,1,0,1;g0,3,1,6,1;");
        b.pass(4);
        states("both are free", b, 0, 2, 2, 2, 1);
        states("B is lower: 6, gives 3, then A gives half of 11", b, 6, 3, 6, 10 + 5, 0);
    }

    private void anotherHourThatHasNotGoneBy() {
        says("2", "A BOOKED one is BOOKED for another HOUR that has not gone by;");
        NextBellboy x = Hotels.laid(THREE);
        due("for hour 0 at first", x.book(2, 0), 40);
        due("for hour 40", x.book(2, 40), 0);
        for (int hour = 1; hour <= 40; hour++) {
            x.pass(1);
            due("for hour " + (hour - 1) + ", just gone by", x.book(2, hour - 1), NO);
            due("as it was", x.state(2, 1), 40);
            due("for hour " + hour + ", the next", x.book(2, hour), 40);
            due("and back", x.book(2, 40), hour);
        }
        due("for hour 0", x.book(2, 0), NO);
        x.pass(1);
        due("it came in the last hour that there is", x.state(2, 0), 1);
        due("for hour 40, gone by, and it is here", x.book(2, 40), NO);
    }

    private void isCalledOff() {
        says("2", "it is CALLED OFF;");
        NextBellboy x = Hotels.laid(THREE);
        due("call(1)", x.call(1), 2);
        due("state(1, 0)", x.state(1, 0), 3);
        Hotels.pass(x, 44);
        states("it never comes", x, 0, 2, 3, 1);
        states("it is never seen to", x, 4, NONE, NONE, 0);
        due("the hour for which it was booked", x.state(1, 1), 4);
        due("its room", x.state(1, 2), 5);
    }

    private void twoChangeRooms() {
        says("2", "two of them change ROOMS.");
        NextBellboy x = Hotels.laid(THREE);
        due("change(0, 2)", x.change(0, 2), 1);
        states("both", x, 2, 1, 5, 2);
        due("change(2, 0)", x.change(2, 0), 1);
        states("and back", x, 2, 2, 5, 1);
        x.change(0, 1);
        x.pass(4);
        due("change(0, 2) where one is here", x.change(0, 2), NO);
        due("change(2, 0) where one is here", x.change(2, 0), NO);
        due("change(1, 2) with both booked", x.change(1, 2), 1);
        x.pass(1);
        due("what is brought is by the new room", x.state(0, 3), 16 + 1 - 1);
    }

    private void theLastEightCanBe() {
        says("2", "UNDONE are the latest of these, of HOURS (all that go by at one time are one; the last 8 can be).");
        NextBellboy x = Hotels.laid(THREE);
        int[] hours = {24, 1, 24, 3, 24, 24, 2, 24, 24};
        int all = 0;
        for (int i = 0; i < hours.length; i++) {
            all += hours[i];
            due("pass " + i, x.pass(hours[i]), all);
            due("that can be undone", x.count(10), Math.min(8, i + 1));
        }
        for (int i = 8; i >= 1; i--) {
            all -= hours[i];
            due("undo() of pass " + i, x.undo(), i - 1);
            due("hours gone by", x.count(1), all);
        }
        due("the ninth", x.undo(), NO);
        due("its hours stay", x.count(1), 24);
        NextBellboy y = Hotels.laid(THREE);
        y.book(2, 30);
        y.call(1);
        y.change(0, 2);
        y.pass(7);
        due("one of each", y.count(10), 4);
        due("undo() of hours", y.undo(), 3);
        counts("undone", y, 3, 0, 2, 0, 0, 1, NONE, 0, 0);
        due("undo() of a change", y.undo(), 2);
        states("undone", y, 2, 2, 5, 1);
        due("undo() of a call", y.undo(), 1);
        states("undone", y, 0, 0, 0, 0);
        due("undo() of a booking", y.undo(), 0);
        states("undone", y, 1, 3, 4, 40);
        due("nothing is left", y.undo(), NO);
        // what is undone is no act itself, and what comes behind it goes on the shelf anew
        for (int i = 0; i < 8; i++) {
            y.pass(1);
        }
        y.undo();
        y.undo();
        y.call(2);
        due("behind two undone", y.count(10), 7);
        y.pass(1);
        y.pass(1);
        due("eight again", y.count(10), 8);
        for (int left = 7; left >= 0; left--) {
            due("undo()", y.undo(), left);
        }
        due("the first of the nine stays", y.count(1), 1);
    }

    private void stateAnswers() {
        says("P7", "Of a GUEST, as it is: 0 BOOKED, 1 HERE, 2 FREE, 3 CALLED OFF (what = 0), the HOUR for which it is, "
            + "or was, BOOKED (1), F of its ROOM (2), what it has TO DO (3), who SAW TO it (4; NONE), to whom it SAW "
            + "(5; bits), COINS (6). BAD.");
        NextBellboy x = Hotels.laid("g0,0,1,0,2;g0,1,5,8,1;g0,2,9,4,1;g0,40,1,0,1;g2,2,3,1,1;r1;r2;r3;r4;r9;");
        x.call(3);
        x.pass(3);
        // 1 sees to 2 (12), 2 to the baby (12); 0 had 7: 5, then 3 left
        int[][] wants = {
            {1, 0, 1, 3, NONE, 2, 0}, {1, 1, 2, 11, 0, 4, 0}, {1, 2, 3, 11, 1, 16, 0},
            {3, 40, 4, 0, NONE, 0, 0}, {2, 2, 9, 0, 2, 0, 0}};
        for (int g = 0; g < 5; g++) {
            for (int what = 0; what <= 6; what++) {
                due("state(" + g + ", " + what + ")", x.state(g, what), wants[g][what]);
            }
            for (int what : new int[] {MIN, -1, 7, MAX}) {
                due("state(" + g + ", " + what + ")", x.state(g, what), BAD);
            }
        }
        for (int g : new int[] {MIN, -1, 5, 6, 7, MAX}) {
            due("state(" + g + ", 0)", x.state(g, 0), BAD);
            due("state(" + g + ", 6)", x.state(g, 6), BAD);
            due("state(" + g + ", 7)", x.state(g, 7), BAD);
        }
        x.pass(2);
        due("COINS (6)", x.state(0, 6), 8);
        NextBellboy most = Hotels.laid("g0,0,1,0,1;" + "g2,0,30,20,1;".repeat(5) + "g1,0,30,20,1;" + "r9;".repeat(7));
        most.pass(1);
        due("the most that one can have to do", most.state(0, 3), 5 * 39 + 69 - 1);
        due("the most that one can have seen to", most.state(0, 5), 126);
        NextBellboy last = Hotels.laid("g2,0,1,0,1;".repeat(6) + "g0,0,1,0,1;");
        last.pass(1);
        due("the last guest that there can be", last.state(6, 0), 1);
        due("the one behind it", last.state(7, 0), BAD);
    }

    private void passAnswers() {
        says("P8", "n HOURS (1 to 24) go by: how many have gone by in all. BAD.");
        NextBellboy x = Hotels.laid(THREE);
        for (int n : new int[] {MIN, -24, -1, 0, 25, 26, MAX}) {
            due("pass(" + n + ")", x.pass(n), BAD);
        }
        counts("BAD changes nothing", x, 3, 0, 3, 0, 0, 0, NONE, 0, 0, 0, 0);
        int all = 0;
        for (int n = 1; n <= 24; n++) {
            all += n;
            due("pass(" + n + ")", x.pass(n), all);
        }
        NextBellboy one = Hotels.laid(THREE);
        NextBellboy many = Hotels.laid(THREE);
        one.pass(24);
        for (int i = 0; i < 24; i++) {
            many.pass(1);
        }
        same("24 at one time are as 24 times one", Hotels.tells(one), Hotels.tells(many));
        due("far beyond the last hour", x.pass(24), 324);
        states("nothing more happens", x, 0, 2, 2, 1);
    }

    private void bookAnswers() {
        says("P9", "A GUEST is BOOKED for HOUR h (0 to 40): for which it was. BAD; NO: it is not BOOKED, that HOUR "
            + "has gone by.");
        NextBellboy x = Hotels.laid(THREE);
        int was = 40;
        for (int h : new int[] {0, 1, 39, 40, 20}) {
            due("book(2, " + h + ")", x.book(2, h), was);
            due("state(2, 1)", x.state(2, 1), h);
            was = h;
        }
        String before = Hotels.looks(x);
        for (int h : new int[] {MIN, -1, 41, MAX}) {
            due("book(2, " + h + ")", x.book(2, h), BAD);
        }
        for (int g : new int[] {MIN, -1, 3, 7, MAX}) {
            due("book(" + g + ", 5)", x.book(g, 5), BAD);
            due("book(" + g + ", 41)", x.book(g, 41), BAD);
        }
        same("BAD changes nothing", Hotels.looks(x), before);
        // for the hour for which it is booked already: no NO stands for it
        due("book(2, 20) again", x.book(2, 20), 20);
        due("it can be undone", x.undo(), 5);
        due("as it was", x.state(2, 1), 20);
        x.call(1);
        x.pass(4);
        before = Hotels.looks(x);
        due("it is here", x.book(0, 9), NO);
        due("it is called off", x.book(1, 9), NO);
        due("that hour has gone by", x.book(2, 3), NO);
        due("that hour has gone by", x.book(2, 0), NO);
        due("both", x.book(0, 3), NO);
        due("BAD ahead of NO", x.book(0, 41), BAD);
        due("BAD ahead of NO", x.book(1, -1), BAD);
        due("BAD ahead of NO", x.book(3, 3), BAD);
        same("NO changes nothing", Hotels.looks(x), before);
        due("the next hour has not", x.book(2, 4), 20);
        x.pass(24);
        due("it is free", x.book(0, 40), NO);
    }

    private void callAnswers() {
        says("P10", "A GUEST is CALLED OFF: how many are BOOKED. BAD; NO: it is not BOOKED.");
        NextBellboy seven = Hotels.laid("g0,9,1,0,1;".repeat(7));
        for (int g = 0; g < 7; g++) {
            due("call(" + g + ")", seven.call(g), 6 - g);
            due("call(" + g + ") again", seven.call(g), NO);
        }
        counts("all are called off", seven, 7, 0, 0, 0, 0, 7, NONE, 0, 0, 0, 7);
        seven.pass(24);
        counts("nobody comes", seven, 7, 24, 0, 0, 0, 7, NONE, 0, 0, 0, 8);
        NextBellboy x = Hotels.laid(THREE);
        x.pass(5);
        String before = Hotels.looks(x);
        for (int g : new int[] {MIN, -1, 3, 7, MAX}) {
            due("call(" + g + ")", x.call(g), BAD);
        }
        due("it is here, with work", x.call(0), NO);
        due("it is here, with the cap", x.call(1), NO);
        same("BAD and NO change nothing", Hotels.looks(x), before);
        x.pass(24);
        due("it is free", x.call(0), NO);
        due("the last that is booked", x.call(2), 0);
    }

    private void changeAnswers() {
        says("P11", "Two change ROOMS: F of the first one's then. BAD (alike, too); NO: one is not BOOKED.");
        NextBellboy x = Hotels.laid(THREE);
        due("change(0, 1)", x.change(0, 1), 5);
        due("change(0, 1)", x.change(0, 1), 2);
        String before = Hotels.looks(x);
        for (int g : new int[] {MIN, -1, 3, 7, MAX}) {
            due("change(" + g + ", 0)", x.change(g, 0), BAD);
            due("change(0, " + g + ")", x.change(0, g), BAD);
            due("change(" + g + ", " + g + ")", x.change(g, g), BAD);
        }
        for (int g = 0; g < 3; g++) {
            due("alike: change(" + g + ", " + g + ")", x.change(g, g), BAD);
        }
        same("BAD changes nothing", Hotels.looks(x), before);
        x.call(1);
        x.pass(4);
        before = Hotels.looks(x);
        due("the first is here", x.change(0, 2), NO);
        due("the second is here", x.change(2, 0), NO);
        due("the first is called off", x.change(1, 2), NO);
        due("the second is called off", x.change(2, 1), NO);
        due("neither is booked", x.change(0, 1), NO);
        due("BAD ahead of NO: alike and here", x.change(0, 0), BAD);
        due("BAD ahead of NO: alike and called off", x.change(1, 1), BAD);
        due("BAD ahead of NO: none such", x.change(0, 3), BAD);
        due("BAD ahead of NO: none such", x.change(-1, 1), BAD);
        same("NO and BAD change nothing", Hotels.looks(x), before);
        NextBellboy alike = Hotels.laid("g0,1,1,0,1;g0,2,1,0,1;r4;r4;");
        due("rooms as far: it is an act all the same", alike.change(0, 1), 4);
        due("that can be undone", alike.undo(), 0);
    }

    private void undoAnswers() {
        says("P12", "UNDONE: how many more can be. NO.");
        NextBellboy x = Hotels.laid(THREE);
        String before = Hotels.looks(x);
        due("nothing was done", x.undo(), NO);
        same("NO changes nothing", Hotels.looks(x), before);
        String[] then = new String[10];
        for (int i = 0; i < 10; i++) {
            then[i] = Hotels.stands(x);
            x.pass(i + 1);
        }
        for (int left = 7; left >= 0; left--) {
            due("undo()", x.undo(), left);
            same("as it stood", Hotels.stands(x), then[left + 2]);
        }
        before = Hotels.looks(x);
        due("the last eight are undone", x.undo(), NO);
        same("NO changes nothing", Hotels.looks(x), before);
        // what is no act of part 2 is neither undone nor to be undone
        x.see(1, 3);
        x.keep();
        x.write('r');
        x.season(1, 60, 0);
        x.early(2, 0);
        x.deal(-1);
        due("nothing to undo", x.undo(), NO);
        x.pass(1);
        x.see(2, 3);
        x.write('1');
        x.keep();
        due("undo()", x.undo(), 0);
        due("what is seen stays", x.count(9), 2);
        due("what is kept stays", x.count(11), 2);
        due("the text stays", x.count(12), THREE.length() + 2);
        x.back();
        due("as kept, the hour that was undone has gone by", x.count(1), 1 + 2 + 1);
    }
}
