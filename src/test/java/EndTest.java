import java.util.Arrays;

/** Promise 3: end. */
public final class EndTest {
    public static void main(String[] args) {
        firstBytesAreKept();
        wrongEndsChangeNothing();
        Check.finish();
    }

    private static void firstBytesAreKept() {
        byte[] tape = new byte[100];
        for (int i = 0; i < 100; i++) {
            tape[i] = (byte) (i * 77 + 5);
        }
        ZlibBox x = Boxes.loaded(tape);
        for (int n = 100; n >= 0; n--) {
            Check.due("end(" + n + ")", x.end(n), n);
            Check.due("count(0)", x.count(0), n);
            Check.due("adler()", x.adler(), Boxes.adler(Arrays.copyOf(tape, n)));
        }
    }

    private static void wrongEndsChangeNothing() {
        ZlibBox x = new ZlibBox();
        x.feed(1, 2, 3, 4, 5);
        x.pack();
        int packed = x.count(1);
        int adler = x.adler();
        for (int n : new int[] {-1, -2, 21, 22, 40, 16384, Integer.MAX_VALUE, Integer.MIN_VALUE}) {
            Check.throwsDue("end(" + n + ")", IllegalArgumentException.class, () -> x.end(n));
            Check.due("count(0)", x.count(0), 20);
            Check.due("adler()", x.adler(), adler);
            Check.due("count(1)", x.count(1), packed);
        }
        Check.due("end(20)", x.end(20), 20);
        Check.due("end(19)", x.end(19), 19);
        Check.throwsDue("end(20) behind end(19)", IllegalArgumentException.class, () -> x.end(20));
        Check.due("count(1) behind end", x.count(1), packed);
        Check.due("end(0)", x.end(0), 0);
        Check.throwsDue("end(1) behind end(0)", IllegalArgumentException.class, () -> x.end(1));
    }
}
