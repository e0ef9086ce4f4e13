import java.util.Arrays;

/** Promise 2: feed. */
public final class FeedTest {
    public static void main(String[] args) {
        bytesStandHighestFirst();
        lengthsGrow();
        theLimitIsKept();
        feedAfterEndWritesOver();
        resultStays();
        Check.finish();
    }

    private static void bytesStandHighestFirst() {
        ZlibBox x = new ZlibBox();
        Check.due("feed", x.feed(0x01020304, 0x85868788, 0x090A0B0C, 0x7FFFFFFF, 0x80000000), 20);
        byte[] tape = Boxes.bytes(1, 2, 3, 4, 0x85, 0x86, 0x87, 0x88, 9, 10, 11, 12, 127, 255, 255, 255, 128, 0, 0, 0);
        tapeDue("one feed", x, tape);
        Check.due("a second feed", x.feed(-1, -2, -3, -4, -5), 20);
        Check.due("a third feed", x.feed(1, 2, 3, 4, 5), 40);
        byte[] two = Boxes.bytes(255, 255, 255, 255, 255, 255, 255, 254, 255, 255, 255, 253, 255, 255, 255, 252,
                255, 255, 255, 251, 0, 0, 0, 1, 0, 0, 0, 2, 0, 0, 0, 3, 0, 0, 0, 4, 0, 0, 0, 5);
        tapeDue("two feeds", x, two);
    }

    /** The tape cannot be read by itself, so it is packed and unpacked; it is empty then. */
    private static void tapeDue(String what, ZlibBox x, byte[] want) {
        Check.due(what + ": count(0)", x.count(0), want.length);
        Check.due(what + ": adler()", x.adler(), Boxes.adler(want));
        x.pack();
        x.again();
        x.unpack();
        Boxes.resultDue(what, x, want);
        x.end(0);
    }

    private static void lengthsGrow() {
        ZlibBox x = new ZlibBox();
        for (int i = 1; i <= 500; i++) {
            Check.due("feed " + i, x.feed(i, i, i, i, i), 20 * i);
        }
    }

    private static void theLimitIsKept() {
        byte[] all = Boxes.filled(Boxes.LIMIT, 7);
        for (int length = Boxes.LIMIT - 40; length <= Boxes.LIMIT; length++) {
            ZlibBox x = Boxes.loaded(Arrays.copyOf(all, length));
            int adler = x.adler();
            if (length + 20 <= Boxes.LIMIT) {
                Check.due("feed to " + length, x.feed(0x07070707, 0x07070707, 0x07070707, 0x07070707, 0x07070707), length + 20);
                Check.due("adler", x.adler(), Boxes.adler(Arrays.copyOf(all, length + 20)));
            } else {
                Check.throwsDue("feed to " + length, IndexOutOfBoundsException.class, () -> x.feed(1, 2, 3, 4, 5));
                Check.due("count(0) behind it", x.count(0), length);
                Check.due("adler() behind it", x.adler(), adler);
                Check.due("count(1) behind it", x.count(1), length);
            }
        }
    }

    private static void feedAfterEndWritesOver() {
        ZlibBox x = new ZlibBox();
        x.feed(-1, -1, -1, -1, -1);
        x.end(3);
        Check.due("feed behind end(3)", x.feed(0, 0, 0, 0, 0x100), 23);
        byte[] want = new byte[23];
        Arrays.fill(want, 0, 3, (byte) 255);
        want[21] = 1;
        tapeDue("feed behind end(3)", x, want);
    }

    private static void resultStays() {
        ZlibBox x = new ZlibBox();
        x.pack();
        x.feed(1, 2, 3, 4, 5);
        Check.due("count(1) behind feed", x.count(1), 8);
        Check.due("word(0) behind feed", x.word(0), 0x7801030000000001L);
    }
}
