/** Hotels as the tests need them, and all that can be seen of one, written in a line. */
final class Hotels {
    static final String FIRST =
        "g0,2,10,4,3;g1,4,8,9,2;g2,5,6,0,1;g0,7,12,5,4;g3,7,9,2,2;g0,15,5,6,3;r2;r5;r1;r4;r0;r3;";

    private Hotels() {
    }

    static NextBellboy laid(String text) {
        NextBellboy x = written(text);
        if (x.lay() < 1) {
            throw new AssertionError("can't be laid: " + text);
        }
        return x;
    }

    static NextBellboy written(String text) {
        NextBellboy x = new NextBellboy();
        put(x, text);
        return x;
    }

    static void put(NextBellboy x, String text) {
        for (int i = 0; i < text.length(); i++) {
            x.write(text.charAt(i));
        }
    }

    static void relay(NextBellboy x, String text) {
        x.wipe();
        put(x, text);
        if (x.lay() < 1) {
            throw new AssertionError("can't be laid: " + text);
        }
    }

    static void pass(NextBellboy x, int hours) {
        for (int left = hours; left > 0; left -= 24) {
            x.pass(Math.min(24, left));
        }
    }

    /** What is undone and kept: the hour, the cap, and each guest's state. */
    static String stands(NextBellboy x) {
        StringBuilder all = new StringBuilder();
        all.append(x.count(1)).append(' ').append(x.count(6));
        for (int g = 0; g < x.count(0); g++) {
            all.append(" /");
            for (int what = 0; what <= 6; what++) {
                all.append(' ').append(x.state(g, what));
            }
        }
        return all.toString();
    }

    /** All that stands: what is counted, the fault, and each guest's state. */
    static String looks(NextBellboy x) {
        StringBuilder all = new StringBuilder();
        for (int what = 0; what <= 12; what++) {
            all.append(x.count(what)).append(' ');
        }
        return all.append(x.fault()).append(" / ").append(stands(x)).toString();
    }

    /** What is told from how it stands, in some fifty calls at most. */
    static String tells(NextBellboy x) {
        StringBuilder all = new StringBuilder();
        for (int g = 0; g < x.count(0); g++) {
            all.append(x.freed(g)).append(' ').append(x.task(g)).append(' ').append(x.guest(g, 1)).append(' ');
        }
        all.append(x.done()).append(' ').append(x.deal(-1)).append(' ').append(x.deal(0)).append(' ');
        all.append(x.off(0)).append(' ').append(x.off(1)).append(' ').append(x.orders(-1)).append(' ');
        all.append(x.orders(0)).append(' ').append(x.absent(0, 3, 0)).append(' ').append(x.absent(0, 3, 1));
        all.append(' ').append(x.season(77, 60, 0)).append(' ').append(x.season(77, 60, 1));
        return all.toString();
    }

    /**
     * Guest 0 is here in hour 0 and has 70 to 108 to do then, 1 an hour: it is free, and all is
     * done, behind so many hours. Guest 1 is a baby, guest 2 wears the cap.
     */
    static String doneBehind(int hours) {
        int baby = hours - 69;
        int need = Math.min(30, baby);
        return "g0,0,1,0,1;g2,0," + need + ",0,1;g1,0,30,0,1;r0;r" + (baby - need) + ";r9;";
    }

    /** As above, but for 71 to 100 hours and with all rooms alike, so that no way to deal them is sooner. */
    static String doneHoweverDealt(int hours) {
        return "g0,0,1,0,1;g2,0," + (hours - 70) + ",0,1;g1,0,30,0,1;r5;r5;r5;";
    }
}
