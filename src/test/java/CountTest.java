/** Promise 9: count. */
public final class CountTest {
    public static void main(String[] args) {
        behindEveryCall();
        onlyTwoAreCounted();
        fullAndEmpty();
        Check.finish();
    }

    private static void behindEveryCall() {
        ZlibBox x = new ZlibBox();
        Check.due("count(0) of a new object", x.count(0), 0);
        Check.due("count(1) of a new object", x.count(1), 0);
        x.feed(1, 2, 3, 4, 5);
        Check.due("count(0) behind feed", x.count(0), 20);
        Check.due("count(1) behind feed", x.count(1), 0);
        x.end(13);
        Check.due("count(0) behind end", x.count(0), 13);
        int packed = x.pack();
        Check.due("count(0) behind pack", x.count(0), 13);
        Check.due("count(1) behind pack", x.count(1), packed);
        x.again();
        Check.due("count(0) behind again", x.count(0), packed);
        Check.due("count(1) behind again", x.count(1), packed);
        x.unpack();
        Check.due("count(0) behind unpack", x.count(0), 0);
        Check.due("count(1) behind unpack", x.count(1), 13);
    }

    /** "what 0, 1." */
    private static void onlyTwoAreCounted() {
        Held x = new Held("a tape of 20 and a result of 8").pack().feed(1, 2, 3, 4, 5).count(0).count(1);
        for (int what : new int[] {-1, 2, 3, -2, 255, 256, 257, 65536, 65537, Integer.MAX_VALUE, Integer.MIN_VALUE}) {
            x.countRefused(what);
        }
        x.count(0).count(1).pack().stateDue();
    }

    private static void fullAndEmpty() {
        Held x = Held.holding("both are full", Rows.pattern(Boxes.LIMIT)).count(0).count(1).countRefused(2).countRefused(-1);
        x.end(0).count(0).count(1).again().count(0).pack().count(0).count(1).stateDue();
        new Held("the result is empty").pack().again().unpack(new byte[0]).count(0).count(1).countRefused(2).stateDue();
    }
}
