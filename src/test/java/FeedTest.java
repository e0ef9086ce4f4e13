import java.util.Arrays;

/** Promise 2: feed. */
public final class FeedTest {
    public static void main(String[] args) {
        bytesStandHighestFirst();
        lengthsGrow();
        everyIntHasItsPlace();
        theLimitIsKept();
        roomAgainBehindARefusedFeed();
        feedAfterEndWritesOver();
        resultStays();
        Check.finish();
    }

    private static void bytesStandHighestFirst() {
        ZlibBox x = new ZlibBox();
        Check.due("feed", x.feed(0x01020304, 0x85868788, 0x090A0B0C, 0x7FFFFFFF, 0x80000000), 20);
        byte[] tape = Boxes.bytes(1, 2, 3, 4, 0x85, 0x86, 0x87, 0x88, 9, 10, 11, 12, 127, 255, 255, 255, 128, 0, 0, 0);
        tapeDue("one feed", x, tape);
        Check.due("a second feed", x.feed(-1, -2, -3, -4, -5), 20);
        Check.due("a third feed", x.feed(1, 2, 3, 4, 5), 40);
        byte[] two = Boxes.bytes(255, 255, 255, 255, 255, 255, 255, 254, 255, 255, 255, 253, 255, 255, 255, 252,
                255, 255, 255, 251, 0, 0, 0, 1, 0, 0, 0, 2, 0, 0, 0, 3, 0, 0, 0, 4, 0, 0, 0, 5);
        tapeDue("two feeds", x, two);
    }

    /** The tape cannot be read by itself, so it is packed and unpacked; it is empty then. */
    private static void tapeDue(String what, ZlibBox x, byte[] want) {
        Check.due(what + ": count(0)", x.count(0), want.length);
        Check.due(what + ": adler()", x.adler(), Boxes.adler(want));
        x.pack();
        x.again();
        x.unpack();
        Boxes.resultDue(what, x, want);
        x.end(0);
    }

    private static void lengthsGrow() {
        ZlibBox x = new ZlibBox();
        for (int i = 1; i <= 500; i++) {
            Check.due("feed " + i, x.feed(i, i, i, i, i), 20 * i);
        }
    }

    /** "it would have more than 16384": 16364 and 20 is the last that has not. */
    private static void theLimitIsKept() {
        for (int length = Boxes.LIMIT - 40; length <= Boxes.LIMIT; length++) {
            Held x = Held.holding("a tape of " + length, Rows.pattern(length));
            if (length <= 16364) {
                x.feed(0x01020304, -1, Integer.MIN_VALUE, 0, 0x0A0B0C0D).stateDue();
            } else {
                x.feedRefused(0x01020304, -1, Integer.MIN_VALUE, 0, 0x0A0B0C0D);
            }
        }
    }

    /** Refused bytes are not kept anywhere: what is fed when there is room again stands where it should. */
    private static void roomAgainBehindARefusedFeed() {
        Held x = Held.holding("a full tape", Rows.pattern(Boxes.LIMIT));
        x.feedRefused(1, 1, 1, 1, 1).end(16365).feedRefused(2, 2, 2, 2, 2);
        x.end(16364).feed(3, 4, 5, 6, 7).stateDue().feedRefused(8, 8, 8, 8, 8);
        x.pack().stateDue().again().stateDue();
        Held y = Held.holding("a tape of 16379", Rows.pattern(16379));
        y.feedRefused(1, 2, 3, 4, 5).end(0).feed(6, 7, 8, 9, 10).stateDue().pack().stateDue();
    }

    /** "The 20 bytes of five ints, the highest of each first": with each int at its least, most and between. */
    private static void everyIntHasItsPlace() {
        int[] values = {0, 1, -1, 0x01020304, 0x80818283, Integer.MAX_VALUE, Integer.MIN_VALUE, 0x000000FF, 0xFF000000};
        for (int value : values) {
            Held x = new Held("feed of " + value);
            x.feed(value, 0, 0, 0, 0).feed(0, value, 0, 0, 0).feed(0, 0, value, 0, 0);
            x.feed(0, 0, 0, value, 0).feed(0, 0, 0, 0, value).feed(value, value, value, value, value).stateDue();
            byte[] tape = x.tape();
            x.pack().again().unpack(tape).stateDue();
        }
    }

    private static void feedAfterEndWritesOver() {
        ZlibBox x = new ZlibBox();
        x.feed(-1, -1, -1, -1, -1);
        x.end(3);
        Check.due("feed behind end(3)", x.feed(0, 0, 0, 0, 0x100), 23);
        byte[] want = new byte[23];
        Arrays.fill(want, 0, 3, (byte) 255);
        want[21] = 1;
        tapeDue("feed behind end(3)", x, want);
    }

    private static void resultStays() {
        ZlibBox x = new ZlibBox();
        x.pack();
        x.feed(1, 2, 3, 4, 5);
        Check.due("count(1) behind feed", x.count(1), 8);
        Check.due("word(0) behind feed", x.word(0), 0x7801030000000001L);
    }
}
