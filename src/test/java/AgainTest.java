/** Promise 4: again. */
public final class AgainTest {
    public static void main(String[] args) {
        tapeIsTheResult();
        theTwoAreApart();
        lengths();
        tapesThatWereLongerOrShorter();
        behindRefusedCalls();
        Check.finish();
    }

    private static void tapeIsTheResult() {
        ZlibBox x = new ZlibBox();
        x.feed(1, 2, 3, 4, 5);
        int packed = x.pack();
        byte[] want = Reference.pack(Boxes.bytes(0, 0, 0, 1, 0, 0, 0, 2, 0, 0, 0, 3, 0, 0, 0, 4, 0, 0, 0, 5));
        Check.due("again()", x.again(), packed);
        Check.due("count(0)", x.count(0), packed);
        Check.due("adler()", x.adler(), Boxes.adler(want));
        Boxes.resultDue("the result stays", x, want);
        Check.due("again() once more", x.again(), packed);
        Check.due("adler() once more", x.adler(), Boxes.adler(want));
    }

    /** "the RESULT stays": neither a longer tape, nor another one, nor a shorter one is seen in it. */
    private static void theTwoAreApart() {
        Held x = new Held("behind again").feed(1, 2, 3, 4, 5).pack().again().stateDue();
        x.feed(-1, -1, -1, -1, -1).stateDue().again().stateDue();
        x.end(0).stateDue().feed(-1, -1, -1, -1, -1).stateDue().again().stateDue();
        x.pack().stateDue().pack().stateDue();
    }

    /** Empty results, full ones and those between. */
    private static void lengths() {
        for (int length : new int[] {0, 1, 7, 8, 9, 255, 256, 16383, 16384}) {
            byte[] row = Rows.pattern(length);
            Held x = Held.unpacked("a result of " + length, row).stateDue().again().stateDue().again().stateDue();
            x.endRefused(length + 1).end(length).pack().again().unpack(row).stateDue();
        }
    }

    private static void tapesThatWereLongerOrShorter() {
        new Held("an empty result").feed(1, 2, 3, 4, 5).again().stateDue().endRefused(1).again().stateDue();
        Held x = Held.holding("a full tape and a short result", new byte[Boxes.LIMIT]).pack().stateDue();
        x.again().stateDue().feed(1, 2, 3, 4, 5).stateDue();
        Held y = Held.unpacked("a short tape and a full result", Rows.pattern(Boxes.LIMIT)).feed(1, 2, 3, 4, 5);
        y.stateDue().again().stateDue().feedRefused(1, 2, 3, 4, 5).again().stateDue();
    }

    private static void behindRefusedCalls() {
        Held x = new Held("behind a broken tape").pack().feed(1, 2, 3, 4, 5).unpackBroken().again().stateDue();
        x.unpack(new byte[0]).again().stateDue();
        byte[] row = Rows.incompressible(14558);
        Held.holding("behind a refused pack", row).packRefused().end(5).again().stateDue();
    }
}
