/** Part 1 of the document's terms, and promises 1 to 6: texts, number by number and letter by letter. */
final class TextSentences extends Sentences {
    private static final String SOUND = "g0,2,10,4,3;";
    /** The longest there is without a fault: all numbers in two figures. */
    private static final String LONGEST = "g03,40,30,20,09;".repeat(7) + "r09;".repeat(7);

    TextSentences(Checks checks, Quotes quotes) {
        super(checks, quotes);
    }

    @Override
    void run() {
        textHas200LettersAtMost();
        numbersHaveOneOrTwoFigures();
        itemsAreALetterThenNumbers();
        kindIs0To3();
        hourIs0To40();
        needIs1To30();
        tipIs0To20();
        speedIs1To9();
        guestsAre7AtMost();
        roomIs0To9();
        roomsAre7AtMost();
        faultIsTheFirst();
        laidIsOfAGuestAtLeast();
        aNewObject();
        writeAnswers();
        wipeAnswers();
        faultAnswers();
        layAnswers();
        guestAnswers();
    }

    private void faultOf(String text, int want) {
        due("fault() of \"" + text + "\"", Hotels.written(text).fault(), want);
    }

    private void textHas200LettersAtMost() {
        says("1", "A TEXT is letters (200 at most)");
        NextBellboy x = new NextBellboy();
        for (int n = 1; n <= 200; n++) {
            due("letter " + n, x.write(n % 4 == 0 ? ';' : "r05".charAt(n % 4 - 1)), n);
        }
        due("letters at 200", x.count(12), 200);
        due("the fault is that of the eighth room", x.fault(), 28);
        due("the 201st letter", x.write('r'), FULL);
        due("the 202nd letter", x.write('r'), FULL);
        due("letters at 201", x.count(12), 200);
        due("wipe()", x.wipe(), 200);
        due("letters when empty", x.count(12), 0);
        due("a letter of the next text", x.write('r'), 1);
        due("letters of the longest without fault", LONGEST.length(), 140);
        faultOf(LONGEST, NONE);
        due("lay() of the longest without fault", Hotels.written(LONGEST).lay(), 7);
        NextBellboy full = Hotels.written(LONGEST + "x".repeat(60));
        due("letters", full.count(12), 200);
        due("the fault of a full one", full.fault(), 140);
        due("lay() of a full one", full.lay(), NO);
        // the last letter counts: it ends or spoils the item
        faultOf(LONGEST.substring(0, 139), 136);
        faultOf(LONGEST + "r", 140);
    }

    /** Every number of each item in no, one, two and three figures. */
    private void numbersHaveOneOrTwoFigures() {
        says("1", "then numbers (one or two figures) parted by , and a ; behind the last one");
        String[] right = {"3", "9", "8", "7", "6"};
        for (int at = 0; at < 5; at++) {
            String[] numbers = right.clone();
            for (String put : new String[] {right[at], "0" + right[at]}) {
                numbers[at] = put;
                faultOf("g" + String.join(",", numbers) + ";", NONE);
            }
            String[] wrongs = {"", "00" + right[at], "000", "100", right[at] + " ", " " + right[at],
                "+" + right[at], "-" + right[at], "x", right[at] + "x", "/", ":", "0/", "0:"};
            for (String put : wrongs) {
                numbers[at] = put;
                faultOf("g" + String.join(",", numbers) + ";", 0);
            }
        }
        faultOf("r7;", NONE);
        faultOf("r07;", NONE);
        for (String put : new String[] {"", "007", "000", "7 ", " 7", "+7", "-7", "x", "/", ":", "0:"}) {
            faultOf("r" + put + ";", 0);
        }
        // the sign behind each number: each letter that is not the right one is a fault
        for (int letter = 32; letter <= 126; letter++) {
            boolean figure = letter >= '0' && letter <= '9';
            char c = (char) letter;
            if (!figure) {
                faultOf("g0" + c + "2,10,4,3;", c == ',' ? NONE : 0);
                faultOf("g0,2" + c + "10,4,3;", c == ',' ? NONE : 0);
                faultOf("g0,2,10" + c + "4,3;", c == ',' ? NONE : 0);
                faultOf("g0,2,10,4" + c + "3;", c == ',' ? NONE : 0);
                faultOf("g0,2,10,4,3" + c, c == ';' ? NONE : 0);
                faultOf("r3" + c, c == ';' ? NONE : 0);
            }
        }
    }

    private void itemsAreALetterThenNumbers() {
        says("1", "ITEMS one behind the other, each a letter");
        faultOf("", NONE);
        for (int letter = 32; letter <= 126; letter++) {
            faultOf((char) letter + "0,2,10,4,3;", letter == 'g' ? NONE : 0);
            faultOf((char) letter + "3;", letter == 'r' ? NONE : 0);
        }
        faultOf(SOUND + SOUND, NONE);
        faultOf("r1;" + SOUND + "r2;" + SOUND, NONE);
        faultOf("r1; " + SOUND, 3);
        faultOf("r1;;" + SOUND, 3);
        faultOf(" r1;", 0);
        faultOf("r1; ", 3);
        // too few numbers, and too many
        faultOf("g0,2,10,4;", 0);
        faultOf("g0,2,10,4,3,0;", 0);
        faultOf("r;", 0);
        faultOf("r1,1;", 0);
        // each beginning of an item is an item that is not so
        for (int n = 1; n < SOUND.length(); n++) {
            faultOf(SOUND.substring(0, n), 0);
            faultOf("r1;" + SOUND.substring(0, n), 3);
        }
        faultOf("r", 0);
        faultOf("r1", 0);
    }

    /** Each number of two figures at the place told, with the others as they may be. */
    private void numberOfAGuest(int at, int least, int most) {
        for (int n = 0; n <= 99; n++) {
            String[] numbers = {"1", "11", "12", "13", "5"};
            numbers[at] = "" + n;
            String text = "g" + String.join(",", numbers) + ";";
            boolean so = n >= least && n <= most;
            faultOf(text, so ? NONE : 0);
            NextBellboy x = Hotels.written(text);
            due("lay() of " + text, x.lay(), so ? 1 : NO);
            if (so) {
                int[] got = {x.guest(0, 0), x.state(0, 1), x.guest(0, 1), x.guest(0, 2), x.guest(0, 3)};
                int[] want = {1, 11, 12, 13, 5};
                want[at] = n;
                for (int i = 0; i < 5; i++) {
                    due("number " + i + " of " + text, got[i], want[i]);
                }
            }
        }
    }

    private void kindIs0To3() {
        says("1", "gK,H,N,T,P a GUEST of KIND K (0 PLAIN, 1 BISHOP, 2 BABY, 3 WIDOWED)");
        numberOfAGuest(0, 0, 3);
        String all = "g0,0,7,0,9;g1,1,7,0,9;g2,2,7,0,9;g3,2,7,0,9;g0,3,7,0,9;";
        NextBellboy x = Hotels.laid(all);
        due("1: what a bishop brings", x.task(0), 14);
        due("2 and 3: what a baby and a widowed one bring", x.task(1), 7 + 3);
        due("0: what a plain one brings", x.task(3), 7);
        due("2: a baby sees to nobody", x.task(2), 0);
    }

    private void hourIs0To40() {
        says("1", "who comes in HOUR H (0 to 40)");
        numberOfAGuest(1, 0, 40);
        NextBellboy x = Hotels.laid("g0,0,1,0,1;g0,40,1,0,1;");
        x.pass(1);
        due("0: is here behind an hour", x.state(0, 0), 1);
        Hotels.pass(x, 39);
        due("40: is booked behind 40 hours", x.state(1, 0), 0);
        x.pass(1);
        due("40: is here behind 41 hours", x.state(1, 0), 1);
    }

    private void needIs1To30() {
        says("1", "NEEDS N (1 to 30)");
        numberOfAGuest(2, 1, 30);
    }

    private void tipIs0To20() {
        says("1", "TIPS T (0 to 20)");
        numberOfAGuest(3, 0, 20);
    }

    private void speedIs1To9() {
        says("1", "and does P (1 to 9) an HOUR");
        numberOfAGuest(4, 1, 9);
    }

    private void guestsAre7AtMost() {
        says("1", "an HOUR; 7 at most, 0, 1, ..");
        for (int many = 1; many <= 7; many++) {
            StringBuilder text = new StringBuilder();
            for (int g = 0; g < many; g++) {
                text.append("g0,").append(10 + g).append(",1,0,1;");
            }
            faultOf(text.toString(), NONE);
            NextBellboy x = Hotels.laid(text.toString());
            due("guests", x.count(0), many);
            for (int g = 0; g < many; g++) {
                due("the hour of guest " + g, x.state(g, 1), 10 + g);
            }
            due("the guest behind the last", x.state(many, 1), BAD);
        }
        String seven = "g0,1,1,0,1;".repeat(7);
        faultOf(seven + "g0,1,1,0,1;", 77);
        due("lay() of eight", Hotels.written(seven + "g0,1,1,0,1;").lay(), NO);
        faultOf("r1;" + seven + "r1;" + "g0,1,1,0,1;", 83);
        faultOf(seven + "g9,1,1,0,1;", 77);
    }

    private void roomIs0To9() {
        says("1", "rF the next ROOM is F (0 to 9) far");
        for (int n = 0; n <= 99; n++) {
            faultOf("r" + n + ";", n <= 9 ? NONE : 0);
            NextBellboy x = Hotels.written(SOUND + "r" + n + ";");
            due("lay() with r" + n, x.lay(), n <= 9 ? 1 : NO);
            if (n <= 9) {
                due("r" + n, x.state(0, 2), n);
            }
        }
        for (int n = 0; n <= 9; n++) {
            due("r0" + n, Hotels.laid(SOUND + "r0" + n + ";").state(0, 2), n);
        }
    }

    private void roomsAre7AtMost() {
        says("1", "that of GUEST 0, then 1, .. ; 7 at most (of those without: 0)");
        String seven = "g0,1,1,0,1;".repeat(7);
        StringBuilder rooms = new StringBuilder();
        for (int many = 0; many <= 7; many++) {
            faultOf(seven + rooms, NONE);
            NextBellboy x = Hotels.laid(seven + rooms);
            for (int g = 0; g < 7; g++) {
                due("with " + many + " rooms: that of guest " + g, x.state(g, 2), g < many ? g + 2 : 0);
            }
            rooms.append('r').append(many + 2).append(';');
        }
        // eight of them by now
        faultOf(seven + rooms, 77 + 21);
        faultOf(rooms + seven, 21);
        due("lay() with eight rooms", Hotels.written(seven + rooms).lay(), NO);
        // rooms that are nobody's, and rooms told ahead of the guests
        NextBellboy x = Hotels.laid("r4;r5;" + SOUND + "r6;");
        due("room of the only guest", x.state(0, 2), 4);
        NextBellboy y = Hotels.laid("r4;" + SOUND + SOUND + "r5;" + SOUND);
        states("rooms among guests", y, 2, 4, 5, 0);
        Hotels.relay(y, SOUND + SOUND + SOUND);
        states("without rooms, laid behind one with rooms", y, 2, 0, 0, 0);
    }

    private void faultIsTheFirst() {
        says("1", "FAULT: the place (from 0 on) of the first letter of the first ITEM that is not so.");
        faultOf("x", 0);
        StringBuilder ahead = new StringBuilder();
        for (int n = 0; n < 7; n++) {
            faultOf(ahead + "q", ahead.length());
            faultOf(ahead + "g0,41,1,0,1;" + "r10;", ahead.length());
            faultOf(ahead + "r1,;g4,0,1,0,1;", ahead.length());
            ahead.append(n % 2 == 0 ? "r1;" : SOUND);
        }
        // the last number of the item is the one that is not so: the place is still its first letter
        faultOf(SOUND + "g0,2,10,4,10;", 12);
        faultOf(SOUND + "r1;r10;", 15);
        // an item that is not so for two reasons, as there are seven already and by its own numbers
        faultOf("r1;".repeat(7) + "r10;", 21);
        faultOf("r1;".repeat(7) + "g4,1,1,1,1;", 21);
        faultOf("r1;".repeat(8) + "g4,1,1,1,1;", 21);
        // as far behind as it can be
        faultOf(LONGEST + "r", 140);
        faultOf(LONGEST + ";" + "g".repeat(59), 140);
    }

    private void laidIsOfAGuestAtLeast() {
        says("1", "LAID is a TEXT without FAULT, of a GUEST at least (NO else;");
        NextBellboy x = new NextBellboy();
        due("lay() of nothing", x.lay(), NO);
        for (String text : new String[] {"r1;", "r1;".repeat(7), "r1;".repeat(8), SOUND + "r", SOUND + ";",
            "g0,2,10,4,3", "g0,2,0,4,3;", "x" + SOUND}) {
            x.wipe();
            Hotels.put(x, text);
            String before = Hotels.looks(x) + Hotels.tells(x);
            due("lay() of " + text, x.lay(), NO);
            same("NO changes nothing", Hotels.looks(x) + Hotels.tells(x), before);
        }
        x.wipe();
        Hotels.put(x, SOUND);
        due("lay() of a guest", x.lay(), 1);

        says("1", "at first " + Hotels.FIRST + ")");
        NextBellboy first = new NextBellboy();
        NextBellboy laid = Hotels.laid(Hotels.FIRST);
        laid.wipe();
        same("a new object is as one on which this is laid", Hotels.looks(first) + Hotels.tells(first),
            Hotels.looks(laid) + Hotels.tells(laid));
        for (int g = 0; g < 6; g++) {
            for (int what = 0; what <= 3; what++) {
                due("guest(" + g + ", " + what + ")", first.guest(g, what), laid.guest(g, what));
            }
        }
    }

    private void aNewObject() {
        says("P1", "As told; THE TEXT is empty.");
        NextBellboy x = new NextBellboy();
        counts("new", x, 6, 0, 6, 0, 0, 0, NONE, 0, 0, 0, 0, 0, 0);
        due("fault()", x.fault(), NONE);
        due("wipe()", x.wipe(), 0);
        due("undo()", x.undo(), NO);
        due("back()", x.back(), NO);
        due("forget()", x.forget(), 0);
        due("lay()", x.lay(), NO);
        due("the first letter", x.write('g'), 1);
    }

    private void writeAnswers() {
        says("P2", "A letter (32 to 126, as in ASCII) comes behind THE TEXT: how long it is. BAD; FULL.");
        NextBellboy x = new NextBellboy();
        int long1 = 0;
        for (int letter = 0; letter <= 127; letter++) {
            boolean so = letter >= 32 && letter <= 126;
            due("write(" + letter + ")", x.write(letter), so ? ++long1 : BAD);
        }
        for (int letter : new int[] {MIN, MIN + 'g', -1, 128, 'g' + 256, 'g' + 65536, MAX}) {
            due("write(" + letter + ")", x.write(letter), BAD);
        }
        due("BAD writes nothing", x.count(12), 95);
        // it comes behind the text, not ahead: r, then 1, then ;
        NextBellboy y = Hotels.written("r1");
        due("the last of three", y.write(';'), 3);
        due("they are in order", y.fault(), NONE);
        for (int n = 96; n <= 200; n++) {
            due("write to " + n, x.write('~'), n);
        }
        for (int letter : new int[] {32, 126, 'g'}) {
            due("full: write(" + letter + ")", x.write(letter), FULL);
        }
        for (int letter : new int[] {MIN, -1, 0, 31, 127, MAX}) {
            due("BAD ahead of FULL: write(" + letter + ")", x.write(letter), BAD);
        }
        due("FULL and BAD write nothing", x.count(12), 200);
        NextBellboy z = Hotels.written(LONGEST + " ".repeat(60));
        z.write('g');
        z.write(5);
        due("FULL and BAD leave the letters", z.fault(), 140);
        due("all of them", z.wipe(), 200);
    }

    private void wipeAnswers() {
        says("P3", "THE TEXT is empty: how long it was.");
        NextBellboy x = new NextBellboy();
        due("empty", x.wipe(), 0);
        for (int n : new int[] {1, 2, 199, 200}) {
            Hotels.put(x, "g".repeat(n));
            due("of " + n, x.wipe(), n);
            due("empty then", x.count(12), 0);
            due("no fault then", x.fault(), NONE);
        }
        Hotels.put(x, "g".repeat(201));
        due("of 200 and one that was FULL", x.wipe(), 200);
        Hotels.put(x, "r1;");
        due("nothing is left of the old letters", x.fault(), NONE);
        String before = Hotels.looks(Hotels.laid(Hotels.FIRST));
        NextBellboy y = Hotels.laid(Hotels.FIRST);
        y.wipe();
        Hotels.put(y, Hotels.FIRST);
        same("what is laid stays", Hotels.looks(y), before);
    }

    private void faultAnswers() {
        says("P4", "FAULT. NONE.");
        NextBellboy x = new NextBellboy();
        due("empty", x.fault(), NONE);
        x.write('r');
        due("at place 0", x.fault(), 0);
        x.write('1');
        due("at place 0 still", x.fault(), 0);
        x.write(';');
        due("none", x.fault(), NONE);
        x.write('r');
        due("at place 3", x.fault(), 3);
        due("of rooms alone none", Hotels.written("r1;r2;").fault(), NONE);
        String before = Hotels.looks(x) + Hotels.tells(x);
        x.fault();
        same("it changes nothing", Hotels.looks(x) + Hotels.tells(x), before);
    }

    private void layAnswers() {
        says("P5", "LAID: how many GUESTS; HOUR 0 is next, nothing SEEN, UNDONE, KEPT; THE TEXT stays. NO.");
        for (int many = 1; many <= 7; many++) {
            due("of " + many, Hotels.written("g3,40,30,20,9;".repeat(many)).lay(), many);
        }
        NextBellboy x = new NextBellboy();
        String text = "g0,2,10,4,3;g1,4,8,9,2;g2,5,6,0,1;r2;r5;";
        Hotels.put(x, text);
        for (int i = 0; i < 9; i++) {
            x.pass(5);
            x.see(0, i);
            x.keep();
        }
        counts("ahead of it", x, 6, 45, 0, 1, 5, 0, 5, 22, 0, 7, 8, 2, text.length());
        due("lay()", x.lay(), 3);
        counts("behind it", x, 3, 0, 3, 0, 0, 0, NONE, 0, 0, 0, 0, 0, text.length());
        states("booked", x, 0, 0, 0, 0);
        states("for the hours told", x, 1, 2, 4, 5);
        states("in the rooms told", x, 2, 2, 5, 0);
        states("nothing to do", x, 3, 0, 0, 0);
        states("seen to by none", x, 4, NONE, NONE, NONE);
        states("saw nobody", x, 5, 0, 0, 0);
        states("no coins", x, 6, 0, 0, 0);
        due("nothing is undone", x.undo(), NO);
        due("nothing is kept", x.back(), NO);
        due("nothing is seen", x.forget(), 0);
        due("the text can be laid again", x.lay(), 3);
        // laid over work that is left
        Hotels.relay(x, "g0,0,1,0,1;g0,0,30,0,1;g2,0,30,5,1;");
        x.pass(1);
        due("what all have to do", x.count(8), 30 - 1 + 30 - 1);
        Hotels.relay(x, text);
        due("laid over it", x.count(8), 0);
        states("laid over it", x, 3, 0, 0, 0);
        // NO with all shelves full
        for (int i = 0; i < 9; i++) {
            x.pass(1);
            x.see(0, i);
            x.keep();
        }
        x.write('r');
        String before = Hotels.looks(x) + Hotels.tells(x);
        due("lay() with a fault", x.lay(), NO);
        same("NO changes nothing", Hotels.looks(x) + Hotels.tells(x), before);
        due("what can be undone still can", x.undo(), 7);
        due("what is kept still is", x.back(), 1);
        due("what is seen still is", x.forget(), 7);
    }

    private void guestAnswers() {
        says("P6", "Of a GUEST, as told: KIND (what = 0), N (1), T (2), P (3). BAD.");
        int[][] told = {{3, 30, 20, 9}, {0, 1, 0, 1}};
        NextBellboy x = Hotels.laid("g3,40,30,20,9;g0,0,1,0,1;");
        for (int g = 0; g < 2; g++) {
            for (int what = 0; what < 4; what++) {
                due("guest(" + g + ", " + what + ")", x.guest(g, what), told[g][what]);
            }
            for (int what : new int[] {MIN, -1, 4, MAX}) {
                due("guest(" + g + ", " + what + ")", x.guest(g, what), BAD);
            }
        }
        for (int g : new int[] {MIN, -1, 2, 7, MAX}) {
            due("guest(" + g + ", 0)", x.guest(g, 0), BAD);
            due("guest(" + g + ", 4)", x.guest(g, 4), BAD);
        }
        x.call(0);
        Hotels.pass(x, 48);
        due("as told, whatever became of it", x.guest(0, 1), 30);
        x.wipe();
        Hotels.put(x, "g1,1,2,3,4;");
        due("a text that is not laid tells nothing", x.guest(1, 1), 1);
        x.lay();
        due("a text that is laid does", x.guest(0, 1), 2);
        due("the other is gone", x.guest(1, 1), BAD);
    }
}
