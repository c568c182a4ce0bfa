/** The lines behind part 4 of the document's terms, and for how many calls an object is used. */
final class AnswerSentences extends Sentences {
    private static final int CALLS = 512;
    private static final String SEVEN = "g0,0,1,4,3;g1,4,8,9,2;g2,5,6,0,1;g0,7,12,5,4;g3,7,9,2,2;g0,15,5,6,3;g2,40,1,1,1;";

    AnswerSentences(Checks checks, Quotes quotes) {
        super(checks, quotes);
    }

    @Override
    void run() {
        badIsANumberThatIsNotTold();
        noIsNotAsThingsStand();
        noneIsThereIsNone();
        fullHasRoomForOneLess();
        theFirstInThisOrder();
        nothingChangesThen();
        anObjectIsUsedFor512Calls();
    }

    /** Hotels in which all that can be refused is: empty, full, amid it, all done. */
    private static NextBellboy hotel(int which) {
        NextBellboy x;
        switch (which) {
            case 0:
                return new NextBellboy();
            case 1:
                return Hotels.laid("g0,40,1,0,1;");
            case 2:
                return Hotels.laid(SEVEN);
            case 3:
                x = new NextBellboy();
                x.call(4);
                x.keep();
                x.pass(6);
                x.see(1, 3);
                return x;
            case 4:
                x = Hotels.laid("g0,0,1,4,3;g0,9,3,4,1;");
                Hotels.put(x, "~".repeat(200 - x.count(12)));
                for (int i = 0; i < 9; i++) {
                    x.see(0, 200);
                    x.keep();
                    x.pass(1);
                }
                return x;
            default:
                x = Hotels.laid("g0,0,1,4,3;g2,9,3,4,1;g0,0,1,5,1;");
                x.call(1);
                x.pass(24);
                x.pass(24);
                return x;
        }
    }

    private static final int HOTELS = 6;

    private void badIsANumberThatIsNotTold() {
        says("answers", "BAD: a number is none that is told (GUESTS: such as there are).");
        for (int which = 0; which < HOTELS; which++) {
            for (FaceCall call : FaceCall.ALL) {
                NextBellboy x = hotel(which);
                String before = Hotels.looks(x);
                int guests = x.count(0);
                for (int[] numbers : combinations(call, guests)) {
                    String told = "hotel " + which + ": " + call.with(numbers);
                    if (call.isTold(numbers, guests)) {
                        holds(told + " is not BAD", call.on(hotel(which), numbers) != BAD);
                    } else {
                        due(told, call.on(x, numbers), BAD);
                    }
                }
                same("hotel " + which + ": BAD changes nothing", Hotels.looks(x), before);
            }
        }
        // such guests as there are, not as there were or as there could be
        NextBellboy x = Hotels.laid(SEVEN);
        due("seven guests: the last", x.state(6, 0), 0);
        due("seven guests: the next", x.state(7, 0), BAD);
        Hotels.relay(x, "g0,1,1,1,1;g0,1,1,1,1;");
        due("two guests: the last", x.state(1, 0), 0);
        due("two guests: the next", x.state(2, 0), BAD);
        x.call(1);
        due("one called off is one that there is", x.state(1, 0), 3);
    }

    private static int[][] combinations(FaceCall call, int guests) {
        int many = 1;
        for (int at = 0; at < call.many(); at++) {
            many *= 6;
        }
        int[][] all = new int[many][call.many()];
        for (int i = 0; i < many; i++) {
            int rest = i;
            for (int at = 0; at < call.many(); at++) {
                all[i][at] = call.edges(at, guests)[rest % 6];
                rest /= 6;
            }
        }
        return all;
    }

    private void noIsNotAsThingsStand() {
        says("answers", "NO: not as things stand.");
        NextBellboy x = hotel(3);
        // 0 and 1 are here, the baby 2 is free, 4 is called off, 3 and 5 are booked for hours 7 and 15
        states("as things stand", x, 0, 1, 1, 2, 0, 3, 0);
        for (int g : new int[] {0, 1, 2, 4}) {
            due("book(" + g + ", 9)", x.book(g, 9), NO);
            due("call(" + g + ")", x.call(g), NO);
            due("change(" + g + ", 3)", x.change(g, 3), NO);
            due("change(3, " + g + ")", x.change(3, g), NO);
            due("early(" + g + ", 0)", x.early(g, 0), NO);
        }
        due("book(3, 5)", x.book(3, 5), NO);
        due("lay()", x.lay(), NO);
        due("book(3, 6)", x.book(3, 6), 7);
        due("change(3, 5)", x.change(3, 5), 3);
        holds("early(3, 0)", x.early(3, 0) >= 6);
        due("call(3)", x.call(3), 1);
        due("back()", x.back(), 0);
        due("back() again", x.back(), NO);
        due("undo()", x.undo(), NO);
    }

    private void noneIsThereIsNone() {
        says("answers", "NONE: there is none.");
        NextBellboy x = Hotels.laid("g0,0,1,0,1;");
        due("state(0, 4)", x.state(0, 4), NONE);
        due("count(6)", x.count(6), NONE);
        due("freed(0)", x.freed(0), NONE);
        due("fault()", x.fault(), NONE);
        x.see(0, 1);
        due("orders(0)", x.orders(0), NONE);
        x.call(0);
        due("off(0)", x.off(0), NONE);
        due("deal(0)", x.deal(0), NONE);
        due("done() is not none", x.done(), 0);
        due("done()", Hotels.laid(Hotels.doneBehind(100)).done(), NONE);
        due("deal(-1)", Hotels.laid(Hotels.doneHoweverDealt(100)).deal(-1), NONE);
    }

    private void fullHasRoomForOneLess() {
        says("answers", "FULL.");
        NextBellboy x = hotel(4);
        due("write('g')", x.write('g'), FULL);
        due("see(0, 0)", x.see(0, 0), FULL);
        due("keep()", x.keep(), FULL);
        x.wipe();
        x.forget();
        x.back();
        due("write('g') behind wipe()", x.write('g'), 1);
        due("see(0, 0) behind forget()", x.see(0, 0), 1);
        due("keep() behind back()", x.keep(), 2);
        due("acts are never FULL", hotel(4).pass(1), 10);
    }

    private void theFirstInThisOrder() {
        says("answers", "Of several the first in this order, whatever the order at a call;");
        NextBellboy full = hotel(4);
        due("BAD ahead of FULL: write", full.write(31), BAD);
        due("BAD ahead of FULL: see, the guest", full.see(2, 0), BAD);
        due("BAD ahead of FULL: see, the coins", full.see(0, 201), BAD);
        NextBellboy x = hotel(5);
        for (int g = 0; g < 3; g++) {
            due("BAD ahead of NO: book, the hour", x.book(g, 41), BAD);
            due("BAD ahead of NO: change, alike", x.change(g, g), BAD);
            due("BAD ahead of NO: change, the second", x.change(g, 3), BAD);
            due("BAD ahead of NO: change, the first", x.change(3, g), BAD);
            due("BAD ahead of NO and NONE: early", x.early(g, 2), BAD);
            due("NO ahead of NONE: early", x.early(g, 1), NO);
        }
        due("BAD ahead of NO: book, the guest", x.book(3, 5), BAD);
        due("BAD ahead of NO: call", x.call(3), BAD);
        due("BAD ahead of NONE: off", x.off(2), BAD);
        due("BAD ahead of NONE: deal", x.deal(3), BAD);
        due("BAD ahead of NONE: freed", x.freed(3), BAD);
        x.see(0, 200);
        due("BAD ahead of NONE: orders", x.orders(3), BAD);
        due("BAD ahead of NONE: state", x.state(3, 4), BAD);
        NextBellboy faulty = Hotels.written("r1;x");
        due("one NO for several reasons: no guest, and a fault", faulty.lay(), NO);
    }

    /** All that is refused there and then, one behind the other: each NO and FULL, and a BAD of each call. */
    private static void refuse(NextBellboy x) {
        int guests = x.count(0);
        for (FaceCall call : FaceCall.ALL) {
            if (call.many() > 0) {
                int[] numbers = new int[call.many()];
                for (int at = 0; at < numbers.length; at++) {
                    numbers[at] = call.edges(at, guests)[4];
                }
                call.on(x, numbers);
            }
        }
        for (int g = 0; g < guests; g++) {
            if (x.state(g, 0) != 0) {
                x.book(g, 40);
                x.call(g);
                x.change(g, (g + 1) % guests);
                x.early(g, 0);
            } else if (x.count(1) > 0 && x.count(1) <= 41) {
                x.book(g, x.count(1) - 1);
            }
        }
        if (x.fault() != NONE || x.count(12) == 0) {
            x.lay();
        }
        if (x.count(12) == 200) {
            x.write('g');
        }
        if (x.count(9) == 7) {
            x.see(0, 0);
        }
        if (x.count(11) == 2) {
            x.keep();
        }
        if (x.count(11) == 0) {
            x.back();
        }
        if (x.count(10) == 0) {
            x.undo();
        }
    }

    private void nothingChangesThen() {
        says("answers", "nothing changes then.");
        for (int which = 0; which < HOTELS; which++) {
            NextBellboy x = hotel(which);
            NextBellboy twin = hotel(which);
            refuse(x);
            same("hotel " + which + ": all that stands", Hotels.looks(x), Hotels.looks(twin));
            same("hotel " + which + ": what is told", Hotels.tells(x), Hotels.tells(twin));
            // what can be undone, and what is kept, is not changed either
            for (int i = 0; i < 3; i++) {
                due("hotel " + which + ": undo()", x.undo(), twin.undo());
                same("hotel " + which + ": undone", Hotels.stands(x), Hotels.stands(twin));
            }
            for (int i = 0; i < 3; i++) {
                due("hotel " + which + ": back()", x.back(), twin.back());
                same("hotel " + which + ": as kept", Hotels.stands(x), Hotels.stands(twin));
            }
            due("hotel " + which + ": orders(-1)", x.orders(-1), twin.orders(-1));
            due("hotel " + which + ": lay()", x.lay(), twin.lay());
            same("hotel " + which + ": as laid", Hotels.stands(x), Hotels.stands(twin));
        }
    }

    private void anObjectIsUsedFor512Calls() {
        says("512", "An object is used for at most 512 calls after it has been made; what later calls answer is free.");
        NextBellboy hours = new NextBellboy();
        for (int n = 1; n <= CALLS; n++) {
            due("hours behind " + n + " calls", hours.pass(24), 24 * n);
        }
        NextBellboy text = new NextBellboy();
        for (int n = 1; n <= CALLS; n++) {
            due("letters behind " + n + " calls", text.write('g'), n <= 200 ? n : FULL);
        }
        NextBellboy rooms = new NextBellboy();
        NextBellboy seen = new NextBellboy();
        NextBellboy kept = new NextBellboy();
        NextBellboy undone = new NextBellboy();
        for (int n = 1; n <= CALLS; n++) {
            due("rooms behind " + n + " calls", rooms.change(0, 1), n % 2 == 1 ? 5 : 2);
            due("seen behind " + n + " calls", seen.see(5, 200), n <= 7 ? n : FULL);
            due("kept behind " + n + " calls", n % 2 == 1 ? kept.keep() : kept.back(), n % 2);
            due("undone behind " + n + " calls", n % 2 == 1 ? undone.pass(1) : undone.undo(), n % 2);
        }
        // each call as the 512th, behind 511 acts and looks, as it is on an object that is younger
        for (FaceCall call : FaceCall.ALL) {
            NextBellboy old = new NextBellboy();
            NextBellboy young = new NextBellboy();
            young.pass(3);
            young.pass(4);
            for (int n = 1; n <= CALLS - 4; n++) {
                old.season(n, 60, 1);
            }
            old.undo();
            old.pass(3);
            old.pass(4);
            int[] numbers = new int[call.many()];
            for (int at = 0; at < numbers.length; at++) {
                numbers[at] = call.edges(at, 6)[3];
            }
            due("at last: " + call.with(numbers), call.on(old, numbers), call.on(young, numbers));
        }
        // what they answer is free, but that they answer is not
        for (FaceCall call : FaceCall.ALL) {
            call.on(hours, new int[call.many()]);
        }
    }
}
