import java.util.Arrays;

/** Promise 3: end. */
public final class EndTest {
    public static void main(String[] args) {
        firstBytesAreKept();
        everyEndOfAShortTape();
        theEndsOfTapes();
        whatIsCutOffDoesNotComeBack();
        Check.finish();
    }

    private static void firstBytesAreKept() {
        byte[] tape = new byte[100];
        for (int i = 0; i < 100; i++) {
            tape[i] = (byte) (i * 77 + 5);
        }
        ZlibBox x = Boxes.loaded(tape);
        for (int n = 100; n >= 0; n--) {
            Check.due("end(" + n + ")", x.end(n), n);
            Check.due("count(0)", x.count(0), n);
            Check.due("adler()", x.adler(), Boxes.adler(Arrays.copyOf(tape, n)));
        }
    }

    private static void everyEndOfAShortTape() {
        for (int n = -3; n <= 23; n++) {
            Held x = new Held("a tape of 20").pack().feed(0x01020304, -2, -3, -4, 0x0A0B0C0D);
            if (n >= 0 && n <= 20) {
                x.end(n).stateDue();
            } else {
                x.endRefused(n);
            }
            x.pack().stateDue();
        }
    }

    /** "n 0 .. its length", for the shortest and the longest tapes too. */
    private static void theEndsOfTapes() {
        for (int length : new int[] {0, 1, 2, 20, 255, 256, 16383, 16384}) {
            Held x = Held.holding("a tape of " + length, Rows.pattern(length));
            x.endRefused(-1).endRefused(Integer.MIN_VALUE);
            x.endRefused(length + 1).endRefused(length + 2).endRefused(length + 65536).endRefused(Integer.MAX_VALUE);
            x.end(length).stateDue();
            if (length > 0) {
                x.end(length - 1).stateDue().endRefused(length);
            }
            x.end(0).stateDue().endRefused(1).endRefused(-1).end(0).stateDue();
        }
    }

    private static void whatIsCutOffDoesNotComeBack() {
        Held x = new Held("behind end").feed(-1, -2, -3, -4, -5).end(7).endRefused(8).endRefused(20);
        x.feed(0, 0, 0, 0, 0).stateDue().pack().stateDue();
        Held y = Held.holding("the longest tape", Rows.pattern(Boxes.LIMIT)).end(1).feed(1, 2, 3, 4, 5).stateDue();
        y.endRefused(22).endRefused(Boxes.LIMIT).pack().stateDue();
    }
}
