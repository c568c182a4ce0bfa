/** A call of the face: its name, how it is made, and between what its numbers lie. */
final class FaceCall {
    /** How a call is made with its numbers. */
    interface Made {
        int on(NextBellboy x, int[] n);
    }

    /** Bounds of a guest's number, and of one that may be -1 too. */
    static final int[] GUEST = {}, GUEST_OR_ALL = {};

    static final FaceCall[] ALL = {
        new FaceCall("write", (x, n) -> x.write(n[0]), new int[] {32, 126}),
        new FaceCall("wipe", (x, n) -> x.wipe()),
        new FaceCall("fault", (x, n) -> x.fault()),
        new FaceCall("lay", (x, n) -> x.lay()),
        new FaceCall("guest", (x, n) -> x.guest(n[0], n[1]), GUEST, new int[] {0, 3}),
        new FaceCall("state", (x, n) -> x.state(n[0], n[1]), GUEST, new int[] {0, 6}),
        new FaceCall("pass", (x, n) -> x.pass(n[0]), new int[] {1, 24}),
        new FaceCall("book", (x, n) -> x.book(n[0], n[1]), GUEST, new int[] {0, 40}),
        new FaceCall("call", (x, n) -> x.call(n[0]), GUEST),
        new FaceCall("change", (x, n) -> x.change(n[0], n[1]), GUEST, GUEST),
        new FaceCall("undo", (x, n) -> x.undo()),
        new FaceCall("freed", (x, n) -> x.freed(n[0]), GUEST),
        new FaceCall("task", (x, n) -> x.task(n[0]), GUEST),
        new FaceCall("early", (x, n) -> x.early(n[0], n[1]), GUEST, new int[] {0, 1}),
        new FaceCall("done", (x, n) -> x.done()),
        new FaceCall("deal", (x, n) -> x.deal(n[0]), GUEST_OR_ALL),
        new FaceCall("off", (x, n) -> x.off(n[0]), new int[] {0, 1}),
        new FaceCall("see", (x, n) -> x.see(n[0], n[1]), GUEST, new int[] {0, 200}),
        new FaceCall("forget", (x, n) -> x.forget()),
        new FaceCall("orders", (x, n) -> x.orders(n[0]), GUEST_OR_ALL),
        new FaceCall("absent", (x, n) -> x.absent(n[0], n[1], n[2]), GUEST, new int[] {0, 10}, new int[] {0, 1}),
        new FaceCall("season", (x, n) -> x.season(n[0], n[1], n[2]), new int[] {0, 9999}, new int[] {1, 60},
            new int[] {0, 1}),
        new FaceCall("keep", (x, n) -> x.keep()),
        new FaceCall("back", (x, n) -> x.back()),
        new FaceCall("count", (x, n) -> x.count(n[0]), new int[] {0, 12})};

    final String name;
    private final Made made;
    private final int[][] bounds;

    private FaceCall(String name, Made made, int[]... bounds) {
        this.name = name;
        this.made = made;
        this.bounds = bounds;
    }

    int on(NextBellboy x, int[] numbers) {
        return made.on(x, numbers);
    }

    int many() {
        return bounds.length;
    }

    private int least(int at) {
        return bounds[at] == GUEST ? 0 : bounds[at] == GUEST_OR_ALL ? -1 : bounds[at][0];
    }

    private int most(int at, int guests) {
        return bounds[at] == GUEST || bounds[at] == GUEST_OR_ALL ? guests - 1 : bounds[at][1];
    }

    /** The least and the most number that is told, those just outside, and the lowest and highest there are. */
    int[] edges(int at, int guests) {
        int least = least(at);
        int most = most(at, guests);
        return new int[] {Integer.MIN_VALUE, least - 1, least, most, most + 1, Integer.MAX_VALUE};
    }

    boolean isTold(int[] numbers, int guests) {
        boolean told = true;
        for (int at = 0; at < bounds.length; at++) {
            told &= numbers[at] >= least(at) && numbers[at] <= most(at, guests);
        }
        return told && !(name.equals("change") && numbers[0] == numbers[1]);
    }

    String with(int[] numbers) {
        StringBuilder told = new StringBuilder(name).append('(');
        for (int i = 0; i < numbers.length; i++) {
            told.append(i > 0 ? ", " : "").append(numbers[i]);
        }
        return told.append(')').toString();
    }
}
