/** Part 4 of the document's terms, and promises 19 to 26: what was seen, absent ones, seasons, houses kept. */
final class SeasonSentences extends Sentences {
    private static final String TWO = "g0,0,1,0,9;g0,0,1,5,9;";

    SeasonSentences(Checks checks, Quotes quotes) {
        super(checks, quotes);
    }

    @Override
    void run() {
        seenIs7AtMost();
        ordersOfAllGuests();
        whenTheLastOneHasCome();
        theFirstOrder();
        absentIs0To10();
        chanceIsBehind99Hours();
        seasonIsOf1To60Hours();
        drawIsBooked();
        drawIsCalledOff();
        drawChangesRooms();
        drawHasNoBound();
        kept2AtMost();
        seeAnswers();
        forgetAnswers();
        ordersAnswers();
        absentAnswers();
        seasonAnswers();
        keepAnswers();
        backAnswers();
        countAnswers();
    }

    private void seenIs7AtMost() {
        says("4", "SEEN (7 at most) is that a GUEST has c (0 to 200) COINS at the end.");
        NextBellboy x = Hotels.laid(TWO);
        for (int n = 1; n <= 7; n++) {
            due("see() " + n, x.see(n % 2, n % 3 == 0 ? 200 : 0), n);
        }
        due("the eighth", x.see(0, 0), FULL);
        due("the ninth", x.see(1, 200), FULL);
        due("how many", x.count(9), 7);
        x.forget();
        due("behind forget()", x.see(0, 0), 1);
        NextBellboy same = Hotels.laid(TWO);
        due("what is seen", same.see(0, 5), 1);
        due("is seen once more", same.see(0, 5), 2);
        due("and fits all the same", same.orders(-1), 1);
        // 120 is the most that one can have
        NextBellboy most = Hotels.laid("g0,0,1,0,1;" + "g2,0,1,20,1;".repeat(5) + "g0,0,1,20,1;");
        most.see(0, 120);
        due("0 first and 6 last", most.orders(-1), 120);
        for (int c : new int[] {119, 121, 200}) {
            most.forget();
            due("see(0, " + c + ")", most.see(0, c), 1);
            due("no order with " + c, most.orders(-1), 0);
        }
    }

    private void ordersOfAllGuests() {
        says("4", "ORDERS of all GUESTS, whatever became of them, each coming when all others that came ahead are done "
            + "with what they have TO DO, ROOMS as they are, such that");
        int orders = 1;
        for (int many = 1; many <= 7; many++) {
            orders *= many;
            NextBellboy x = Hotels.laid("g0,40,30,20,1;".repeat(many));
            due("of " + many, x.orders(-1), orders);
            for (int k = 0; k < many; k++) {
                due("of " + many + ": the first, " + k, x.orders(k), k);
            }
        }
        NextBellboy x = Hotels.laid("g0,0,1,1,1;g0,3,1,8,1;g0,40,1,5,1;g2,0,1,3,1;r9;r8;r7;r6;");
        x.see(0, 9);
        int fit = x.orders(-1);
        holds("some fit, not all: " + fit, fit > 0 && fit < 24);
        String first = "" + x.orders(0) + x.orders(1) + x.orders(2) + x.orders(3);
        x.change(0, 2);
        due("behind a change", x.orders(-1), fit);
        x.call(2);
        due("one is called off", x.orders(-1), fit);
        x.pass(10);
        due("some are here, some are free", x.orders(-1), fit);
        x.pass(24);
        x.pass(24);
        due("all is done", x.orders(-1), fit);
        same("the first", "" + x.orders(0) + x.orders(1) + x.orders(2) + x.orders(3), first);
        // 0 1 2 3: 0 has 8 and is free ahead of 2, 1 has 5 and gives 2, 2 has 2 and gives 1
        NextBellboy slow = Hotels.laid("g0,0,1,0,1;g0,0,30,8,1;g0,0,30,5,1;g0,0,30,2,1;r9;r9;r9;r9;");
        slow.see(0, 8 + 2);
        slow.see(1, 3 + 1);
        due("each is free ahead of the next one's coming", slow.orders(-1), 1);
        // what a widowed one brings may be nothing: who saw to it is free ahead of the next all the same
        NextBellboy none = Hotels.laid("g0,0,1,0,1;g3,0,1,8,1;g3,0,1,5,1;");
        none.see(0, 8 + 2);
        none.see(1, 3);
        due("nothing to do", none.orders(-1), 1);
        due("nothing to do: the first", none.orders(0), 0);
    }

    private void whenTheLastOneHasCome() {
        says("4", "such that all that is SEEN is so when the last one has come, and all that can be FREE are: how many;");
        // 0 1: 0 has 7. 1 0: 1 has 4. The last of an order wears the cap and has nothing
        NextBellboy x = Hotels.laid("g0,0,30,4,1;g0,0,30,7,1;");
        int[][] fits = {{0, 7, 1}, {0, 0, 1}, {0, 4, 0}, {1, 4, 1}, {1, 0, 1}, {1, 7, 0}, {0, 1, 0}, {0, 8, 0}};
        for (int[] fit : fits) {
            x.forget();
            x.see(fit[0], fit[1]);
            due("orders with " + fit[1] + " of " + fit[0], x.orders(-1), fit[2]);
        }
        x.forget();
        x.see(0, 7);
        x.see(1, 0);
        due("both", x.orders(-1), 1);
        x.see(1, 4);
        due("all that is seen, not some of it", x.orders(-1), 0);
        NextBellboy lone = Hotels.laid("g0,0,1,20,1;");
        lone.see(0, 0);
        due("an only one has none", lone.orders(-1), 1);
        NextBellboy babies = Hotels.laid("g2,0,1,20,1;".repeat(3));
        babies.see(1, 0);
        due("babies have none", babies.orders(-1), 6);
        // the last to come is a baby: who wears the cap is never free, so it has no tip of it
        NextBellboy last = Hotels.laid("g0,0,1,3,1;g2,0,1,9,1;");
        last.see(0, 9);
        due("no tip for who wears the cap", last.orders(-1), 0);
    }

    private void theFirstOrder() {
        says("4", "which GUEST is the k-th in the first (by who is first, then second, ..); none.");
        NextBellboy x = Hotels.laid("g0,0,1,4,1;g0,0,1,7,1;g0,0,1,4,1;");
        x.see(0, 0);
        // 0 is last: 1 2 0, then 2 1 0
        due("how many", x.orders(-1), 2);
        int[] first = {1, 2, 0};
        for (int k = 0; k < 3; k++) {
            due("orders(" + k + ")", x.orders(k), first[k]);
        }
        due("orders(3)", x.orders(3), BAD);
        x.see(0, 200);
        for (int k = 0; k < 3; k++) {
            due("none: orders(" + k + ")", x.orders(k), NONE);
        }
        due("none: orders(3)", x.orders(3), BAD);
    }

    private void chance(String when, NextBellboy x, int g, int tenths, int above, int below) {
        due(when + ": absent(" + g + ", " + tenths + ", 0)", x.absent(g, tenths, 0), above);
        due(when + ": absent(" + g + ", " + tenths + ", 1)", x.absent(g, tenths, 1), below);
    }

    private void absentIs0To10() {
        says("4", "ABSENT: each that is BOOKED does not come by x (0 to 10) of ten, for itself (it is as if CALLED OFF):");
        // a baby comes by 10 - x of ten
        int[][] comes = {{1, 1}, {9, 10}, {4, 5}, {7, 10}, {3, 5}, {1, 2}, {2, 5}, {3, 10}, {1, 5}, {1, 10}, {0, 1}};
        for (int x = 0; x <= 10; x++) {
            chance("a baby", Hotels.laid("g2,40,1,0,1;"), 0, x, comes[x][0], comes[x][1]);
        }
        // 0 is free if it comes and 1 does
        int[][] both = {{1, 1}, {81, 100}, {16, 25}, {49, 100}, {9, 25}, {1, 4}, {4, 25}, {9, 100}, {1, 25}, {1, 100},
            {0, 1}};
        for (int x = 0; x <= 10; x++) {
            chance("both for themselves", Hotels.laid(TWO), 0, x, both[x][0], both[x][1]);
        }
        NextBellboy x = Hotels.laid("g0,0,1,0,9;g0,5,1,0,9;g0,5,1,0,9;");
        x.call(2);
        chance("one called off is away for good", x, 0, 1, 81, 100);
        x.pass(1);
        chance("one that is here does not stay away", x, 0, 1, 9, 10);
        x.pass(5);
        chance("free already", x, 0, 9, 1, 1);
        chance("here for good", x, 1, 9, 0, 1);
        chance("called off", x, 2, 0, 0, 1);
        NextBellboy seven = Hotels.laid("g2,9,1,0,1;".repeat(7));
        chance("seven, each for itself", seven, 6, 3, 7, 10);
        // guest 0 comes, and not all of the six others stay away
        chance("seven, one of six", Hotels.laid("g0,0,1,0,9;".repeat(7)), 0, 1, 8999991, 10000000);
    }

    private void chanceIsBehind99Hours() {
        says("4", "the chance that a GUEST is FREE behind 99 HOURS, in lowest terms.");
        for (int hours = 71; hours <= 108; hours++) {
            chance("free behind " + hours, Hotels.laid(Hotels.doneBehind(hours)), 0, 0, hours <= 99 ? 1 : 0, 1);
        }
        NextBellboy x = Hotels.laid(Hotels.doneBehind(100));
        // 100 hours if the baby comes, 69 if not; guest 2 must come
        chance("the baby must stay away", x, 0, 5, 1, 8);
        chance("the baby must stay away", x, 0, 4, 18, 125);
        x.pass(1);
        chance("99 more", x, 0, 5, 1, 1);
        chance("0 in lowest terms", Hotels.laid("g0,0,1,0,1;".repeat(6)), 5, 10, 0, 1);
        chance("1 in lowest terms", Hotels.laid("g2,0,1,0,1;".repeat(7)), 6, 0, 1, 1);
    }

    /** A season by acts on a twin, as the document tells it, against season() on the other. */
    private void seasonByActs(String text, int hours, int z, int n) {
        NextBellboy x = Hotels.laid(text);
        NextBellboy twin = Hotels.laid(text);
        Hotels.pass(x, hours);
        Hotels.pass(twin, hours);
        for (int k = 0; k < n; k++) {
            Draws.goBy(twin, Draws.draw(z, k));
        }
        String when = text + " behind " + hours + ": season(" + z + ", " + n;
        due(when + ", 0)", x.season(z, n, 0), twin.count(4));
        due(when + ", 1)", x.season(z, n, 1), twin.count(7));
        due(when + "): no hour goes by", x.count(1), hours);
    }

    private void seasonIsOf1To60Hours() {
        says("4", "A SEASON by z (0 to 9999) of n (1 to 60) HOURS from now on (nothing changes by it): ahead of the k-th "
            + "(0 first),");
        String many = "g0,2,9,4,3;g1,4,8,9,2;g2,5,6,1,1;g0,30,12,5,4;g3,37,9,2,2;g0,38,5,6,3;g0,40,7,7,7;r2;r9;r1;r4;";
        for (int z : new int[] {0, 1, 5000, 9998, 9999}) {
            for (int n : new int[] {1, 2, 30, 59, 60}) {
                for (int hours : new int[] {0, 1, 35, 40, 41}) {
                    seasonByActs(many, hours, z, n);
                }
            }
        }
        for (int z = 0; z <= 9999; z += 53) {
            seasonByActs(Hotels.FIRST, 0, z, 20);
            seasonByActs(many, 3, z, 60);
        }
        NextBellboy x = Hotels.laid(many);
        x.keep();
        x.see(1, 1);
        x.pass(3);
        String before = Hotels.looks(x);
        String told = Hotels.tells(x);
        x.season(9999, 60, 0);
        x.season(0, 1, 1);
        same("nothing changes by it", Hotels.looks(x), before);
        same("nothing else is told then", Hotels.tells(x), told);
        // an hour is free of what its draw does not do: 0 sees to 1 and is free
        int idle = Draws.seasonWith(Draws::idle, Draws::idle);
        due("an idle hour: free", Hotels.laid(TWO).season(idle, 1, 0), 1);
        due("an idle hour: coins", Hotels.laid(TWO).season(idle, 1, 1), 5);
        String later = "g0,0,1,0,9;g0,1,1,5,9;";
        due("1 hour: free", Hotels.laid(later).season(idle, 1, 0), 0);
        due("2 hours: free", Hotels.laid(later).season(idle, 2, 0), 1);
        // draw 0 is that of the hour that is next, not of the one behind it
        int late = Draws.seasonWith(Draws::idle, d -> d % 8 == 1 && d / 8 % 2 == 1);
        due("the draw of the second hour comes too late", Hotels.laid(TWO).season(late, 2, 0), 1);
        due("the draw of the second hour comes in time", Hotels.laid(later).season(late, 2, 0), 0);
    }

    private void drawIsBooked() {
        says("4", "with GUEST (DRAW by 8, cut) modulo as many as there are, if DRAW modulo 8 is 0, it is BOOKED for the "
            + "HOUR that is next and (DRAW by 64, cut) modulo 8 (40 at most),");
        String baby = "g2,40,1,0,1;g2,40,1,0,1;";
        // a baby is free in the hour for which it is booked
        for (int more = 0; more <= 7; more++) {
            int ahead = more;
            int z = Draws.seasonWith(d -> d % 8 == 0 && d / 8 % 2 == 0 && d / 64 % 8 == ahead, Draws::idle,
                Draws::idle, Draws::idle, Draws::idle);
            for (int n = 1; n <= 5; n++) {
                due("booked " + more + " ahead, behind " + n, Hotels.laid(baby).season(z, n, 0), n > more ? 1 : 0);
            }
        }
        // draws that would go beyond hour 40 book for it
        int seven = Draws.seasonWith(d -> d % 8 == 0 && d / 8 % 2 == 0 && d / 64 % 8 == 7);
        for (int hours : new int[] {32, 33, 34, 39, 40}) {
            seasonByActs(baby, hours, seven, 9);
            seasonByActs("g2,40,1,0,1;g2,40,1,0,1;r1;", hours, seven, 60);
        }
        NextBellboy last = Hotels.laid("g0,40,1,0,9;g0,40,1,5,9;");
        Hotels.pass(last, 40);
        due("40 at most: it comes", last.season(seven, 1, 0), 1);
        due("40 at most: it is tipped", last.season(seven, 1, 1), 5);
        // one that is here, free or called off is not booked
        int now = Draws.seasonWith(d -> d % 8 == 0 && d / 8 % 2 == 1 && d / 64 % 8 == 0);
        NextBellboy here = Hotels.laid("g0,0,1,0,9;g0,40,1,5,9;");
        here.pass(1);
        due("it is booked for the next hour", here.season(now, 1, 1), 5);
        here.call(1);
        due("it can't be booked", here.season(now, 1, 1), 0);
        // modulo as many as there are
        int eight = Draws.seasonWith(d -> d % 8 == 1 && d / 8 % 7 == 1 && d / 8 > 7);
        String babies = "g2,0,1,0,1;";
        seasonByActs(babies.repeat(7), 0, eight, 1);
        due("one of seven is called off", Hotels.laid(babies.repeat(7)).season(eight, 1, 0), 6);
        due("the only one is called off", Hotels.laid(babies).season(eight, 1, 0), 0);
    }

    private void drawIsCalledOff() {
        says("4", "if 1, it is CALLED OFF,");
        int first = Draws.seasonWith(d -> d % 8 == 1 && d / 8 % 2 == 0);
        int second = Draws.seasonWith(d -> d % 8 == 1 && d / 8 % 2 == 1);
        String plainAndBaby = "g0,0,1,0,1;g2,0,1,5,1;";
        due("the plain one: the baby is free", Hotels.laid(plainAndBaby).season(first, 1, 0), 1);
        due("the baby: nobody is free", Hotels.laid(plainAndBaby).season(second, 1, 0), 0);
        NextBellboy here = Hotels.laid(TWO);
        here.book(1, 1);
        here.pass(1);
        due("one that is here stays", here.season(first, 1, 0), 1);
        due("one that is booked does not come", here.season(second, 1, 0), 0);
    }

    private void drawChangesRooms() {
        says("4", "if 2, it changes ROOMS with GUEST (DRAW by 64, cut) modulo as many; each if it can be;");
        int change = Draws.seasonWith(d -> d % 8 == 2 && d / 8 % 2 == 0 && d / 64 % 2 == 1, Draws::idle);
        int alike = Draws.seasonWith(d -> d % 8 == 2 && d / 8 % 2 == 1 && d / 64 % 2 == 1, Draws::idle);
        // 1 brings 1, or 2 with the other room: guest 0 is free in the first hour or in the second
        String far = "g0,0,1,0,1;g0,0,1,5,1;r0;r1;";
        due("changed", Hotels.laid(far).season(change, 1, 0), 1);
        due("with itself: as it was", Hotels.laid(far).season(alike, 1, 0), 0);
        due("with itself: behind two hours", Hotels.laid(far).season(alike, 2, 0), 1);
        NextBellboy here = Hotels.laid("g0,0,1,0,1;g0,1,1,5,1;r0;r1;");
        here.pass(1);
        due("one is here: as it was", here.season(change, 1, 0), 0);
        here.undo();
        here.call(0);
        due("one is called off: nobody is free", here.season(change, 2, 0), 0);
    }

    private void drawHasNoBound() {
        says("4", "DRAW being (x times x) modulo 65521, x 7919 z, 6151 k and 1 together: how many are FREE then; how many "
            + "COINS all have.");
        // 7919 x 9999 + 6151 x 59 + 1 = 79544991, which squared is beyond an int
        due("the greatest", Draws.draw(9999, 59), (int) (79544991L * 79544991L % 65521));
        due("the least", Draws.draw(0, 0), 1);
        String many = "g0,9,9,4,9;g1,19,8,9,9;g2,29,6,1,9;g0,39,1,5,9;g3,40,9,2,9;g0,40,5,6,9;g2,40,7,7,9;";
        for (int z = 9990; z <= 9999; z++) {
            seasonByActs(many, 0, z, 60);
            seasonByActs(many, 24, z, 60);
            seasonByActs("g0,40,1,0,1;", 0, z, 60);
        }
        due("none", Hotels.laid("g0,0,1,20,1;").season(5, 60, 1), 0);
        int idle = Draws.seasonWith(Draws::idle);
        due("the most that can be free", Hotels.laid("g2,0,1,20,1;".repeat(7)).season(idle, 1, 0), 7);
        due("the most coins", Hotels.laid("g0,0,1,20,9;" + "g0,0,1,20,9;".repeat(6)).season(idle, 1, 1), 120);
    }

    private void kept2AtMost() {
        says("4", "KEPT is all as it stands, but what is SEEN and THE TEXT (these stay by back(), behind which nothing can "
            + "be UNDONE): 2 at most.");
        NextBellboy x = Hotels.laid("g0,1,5,4,1;g1,2,8,9,2;g2,40,6,3,1;r2;r5;r1;");
        int letters = x.count(12);
        due("keep() in hour 0", x.keep(), 1);
        x.change(0, 2);
        x.book(2, 3);
        x.pass(5);
        String fifth = Hotels.stands(x);
        due("keep() in hour 5", x.keep(), 2);
        due("keep() once more", x.keep(), FULL);
        x.pass(24);
        x.see(1, 1);
        x.write('r');
        due("keep() in hour 29", x.keep(), FULL);
        due("back() to hour 5", x.back(), 1);
        due("what is seen stays", x.count(9), 1);
        due("the text stays", x.count(12), letters + 1);
        due("nothing can be undone", x.count(10), 0);
        due("undo()", x.undo(), NO);
        same("all as it stood", Hotels.stands(x), fifth);
        due("keep() again", x.keep(), 2);
        due("keep() again", x.keep(), FULL);
        due("back()", x.back(), 1);
        due("back() to hour 0", x.back(), 0);
        counts("as it stood at first", x, 3, 0, 3, 0, 0, 0, NONE, 0, 0, 1, 0, 0, letters + 1);
        states("as it stood at first", x, 2, 2, 5, 1);
        states("as it stood at first", x, 1, 1, 2, 40);
        due("back() to nothing", x.back(), NO);
    }

    private void seeAnswers() {
        says("P19", "SEEN: how many. BAD; FULL.");
        NextBellboy x = Hotels.laid(TWO);
        int[] bads = {MIN, -1, 201, MAX};
        int[] strangers = {MIN, -1, 2, 7, MAX};
        due("see(0, 0)", x.see(0, 0), 1);
        due("see(1, 200)", x.see(1, 200), 2);
        for (int c : bads) {
            due("see(0, " + c + ")", x.see(0, c), BAD);
        }
        for (int g : strangers) {
            due("see(" + g + ", 0)", x.see(g, 0), BAD);
            due("see(" + g + ", 201)", x.see(g, 201), BAD);
        }
        due("BAD is not seen", x.count(9), 2);
        for (int n = 3; n <= 7; n++) {
            due("see(0, 0)", x.see(0, 0), n);
        }
        String before = Hotels.looks(x) + Hotels.tells(x);
        due("full: see(0, 0)", x.see(0, 0), FULL);
        due("full: see(1, 200)", x.see(1, 200), FULL);
        for (int c : bads) {
            due("BAD ahead of FULL: see(0, " + c + ")", x.see(0, c), BAD);
        }
        for (int g : strangers) {
            due("BAD ahead of FULL: see(" + g + ", 0)", x.see(g, 0), BAD);
        }
        same("BAD and FULL change nothing", Hotels.looks(x) + Hotels.tells(x), before);
        x.call(0);
        x.forget();
        due("of one called off", x.see(0, 5), 1);
    }

    private void forgetAnswers() {
        says("P20", "Nothing is SEEN: how many were.");
        NextBellboy x = Hotels.laid(TWO);
        for (int many = 0; many <= 7; many++) {
            for (int n = 0; n < many; n++) {
                x.see(0, 200);
            }
            due("fits", x.orders(-1), many == 0 ? 2 : 0);
            due("forget() of " + many, x.forget(), many);
            due("how many", x.count(9), 0);
            due("all fit again", x.orders(-1), 2);
        }
        for (int n = 0; n < 8; n++) {
            x.see(0, 200);
        }
        due("forget() of seven and one that was FULL", x.forget(), 7);
        due("forget() again", x.forget(), 0);
    }

    private void ordersAnswers() {
        says("P21", "ORDERS: how many (k = -1), the k-th GUEST of the first (0 first; NONE). BAD (a place that there is not).");
        for (int many : new int[] {1, 2, 6, 7}) {
            NextBellboy x = Hotels.laid("g0,0,1,5,1;".repeat(many));
            due("the last place", x.orders(many - 1), many - 1);
            for (int k : new int[] {MIN, -3, -2, many, many + 1, 8, MAX}) {
                due(many + " guests: orders(" + k + ")", x.orders(k), BAD);
            }
            x.see(0, 200);
            due("no order", x.orders(-1), 0);
            due("no order: the first place", x.orders(0), NONE);
            due("no order: the last place", x.orders(many - 1), NONE);
            for (int k : new int[] {MIN, -2, many, MAX}) {
                due("BAD ahead of NONE: orders(" + k + ")", x.orders(k), BAD);
            }
        }
    }

    private void absentAnswers() {
        says("P22", "ABSENT: above (part = 0), below (1). BAD.");
        NextBellboy x = Hotels.laid(TWO);
        chance("in lowest terms", x, 0, 5, 1, 4);
        String before = Hotels.looks(x);
        for (int bad : new int[] {MIN, -1, 11, MAX}) {
            due("absent(0, " + bad + ", 0)", x.absent(0, bad, 0), BAD);
        }
        for (int bad : new int[] {MIN, -1, 2, MAX}) {
            due("absent(0, 5, " + bad + ")", x.absent(0, 5, bad), BAD);
            due("absent(" + bad + ", 5, 0)", x.absent(bad, 5, 0), BAD);
            due("absent(" + bad + ", 11, 2)", x.absent(bad, 11, 2), BAD);
        }
        same("it changes nothing", Hotels.looks(x), before);
    }

    private void seasonAnswers() {
        says("P23", "A SEASON: FREE (what = 0), COINS (1). BAD.");
        int idle = Draws.seasonWith(Draws::idle);
        NextBellboy x = Hotels.laid("g0,0,1,0,9;g2,0,1,5,9;g0,0,1,6,9;");
        due("FREE", x.season(idle, 1, 0), 2);
        due("COINS", x.season(idle, 1, 1), 11);
        String before = Hotels.looks(x);
        for (int z : new int[] {MIN, -1, 10000, MAX}) {
            due("season(" + z + ", 1, 0)", x.season(z, 1, 0), BAD);
        }
        for (int n : new int[] {MIN, -1, 0, 61, MAX}) {
            due("season(0, " + n + ", 0)", x.season(0, n, 0), BAD);
        }
        for (int what : new int[] {MIN, -1, 2, MAX}) {
            due("season(0, 1, " + what + ")", x.season(0, 1, what), BAD);
            due("season(10000, 61, " + what + ")", x.season(10000, 61, what), BAD);
        }
        same("it changes nothing", Hotels.looks(x), before);
    }

    private void keepAnswers() {
        says("P24", "KEPT: how many. FULL.");
        NextBellboy x = Hotels.laid(TWO);
        due("the first", x.keep(), 1);
        x.pass(1);
        due("the second", x.keep(), 2);
        x.pass(1);
        String before = Hotels.looks(x);
        due("the third", x.keep(), FULL);
        due("the fourth", x.keep(), FULL);
        same("FULL changes nothing", Hotels.looks(x), before);
        due("back() is to the second, not to the third", x.back(), 1);
        due("its hour", x.count(1), 1);
        due("back()", x.back(), 0);
        due("its hour", x.count(1), 0);
        due("the first again", x.keep(), 1);
    }

    private void backAnswers() {
        says("P25", "As KEPT last (it is KEPT no more then): how many are left; nothing is UNDONE then. NO.");
        NextBellboy x = Hotels.laid(TWO);
        x.pass(3);
        String before = Hotels.looks(x);
        due("nothing is kept", x.back(), NO);
        same("NO changes nothing", Hotels.looks(x), before);
        due("NO leaves what can be undone", x.undo(), 0);
        x.keep();
        x.pass(2);
        x.keep();
        x.pass(4);
        x.pass(4);
        due("can be undone", x.count(10), 3);
        due("the last", x.back(), 1);
        due("its hour", x.count(1), 2);
        due("can be undone", x.count(10), 0);
        due("nothing is undone", x.undo(), NO);
        x.pass(5);
        due("what comes then can be", x.undo(), 0);
        due("its hour", x.count(1), 2);
        due("the first", x.back(), 0);
        due("its hour", x.count(1), 0);
        due("no more", x.back(), NO);
    }

    private void countAnswers() {
        says("P26", "How many: 0 GUESTS, 1 hours gone by (so the HOUR that is next), 2 BOOKED, 3 HERE, 4 FREE, 5 CALLED OFF, "
            + "6 who wears the CAP (which; NONE), 7 COINS of all, 8 what all have TO DO, 9 SEEN, 10 that can be UNDONE, "
            + "11 KEPT, 12 letters of THE TEXT. BAD.");
        NextBellboy x = Hotels.laid("g0,0,1,0,9;g0,1,9,8,1;g2,2,5,7,1;g0,3,6,4,2;g0,9,1,1,1;g0,9,1,1,1;g0,9,1,1,1;");
        counts("at first", x, 7, 0, 7, 0, 0, 0, NONE, 0, 0, 0, 0, 0, 77);
        x.call(5);
        x.call(6);
        x.pass(4);
        x.keep();
        x.see(0, 1);
        x.see(0, 2);
        // 0 is free in hour 1 with 8; 1 has 5 less 1 in hour 2, and 6 more less 1 in hour 3
        counts("behind four hours", x, 7, 4, 1, 2, 2, 2, 3, 8, 9, 2, 3, 1, 77);
        x.wipe();
        for (int what : new int[] {MIN, -1, 13, MAX}) {
            due("count(" + what + ")", x.count(what), BAD);
        }
        x.pass(9);
        // 1 is free with 7 and 4, and has given 5 of them to 0; 3 is free with 1
        counts("behind thirteen hours", x, 7, 13, 0, 1, 4, 2, 4, 20, 0, 2, 4, 1, 0);
    }
}
