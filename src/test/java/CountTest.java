/** Promise 9: count. */
public final class CountTest {
    public static void main(String[] args) {
        ZlibBox x = new ZlibBox();
        Check.due("count(0) of a new object", x.count(0), 0);
        Check.due("count(1) of a new object", x.count(1), 0);
        x.feed(1, 2, 3, 4, 5);
        Check.due("count(0) behind feed", x.count(0), 20);
        Check.due("count(1) behind feed", x.count(1), 0);
        x.end(13);
        Check.due("count(0) behind end", x.count(0), 13);
        int packed = x.pack();
        Check.due("count(0) behind pack", x.count(0), 13);
        Check.due("count(1) behind pack", x.count(1), packed);
        x.again();
        Check.due("count(0) behind again", x.count(0), packed);
        Check.due("count(1) behind again", x.count(1), packed);
        x.unpack();
        Check.due("count(0) behind unpack", x.count(0), 0);
        Check.due("count(1) behind unpack", x.count(1), 13);
        for (int what : new int[] {-1, 2, 3, 256, 257, Integer.MAX_VALUE, Integer.MIN_VALUE}) {
            Check.throwsDue("count(" + what + ")", IllegalArgumentException.class, () -> x.count(what));
        }
        Check.due("count(1) behind all this", x.count(1), 13);
        Check.finish();
    }
}
