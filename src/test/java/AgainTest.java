import java.util.Arrays;

/** Promise 4: again. */
public final class AgainTest {
    public static void main(String[] args) {
        tapeIsTheResult();
        theTwoAreApart();
        longResultsTooAndEmptyOnes();
        Check.finish();
    }

    private static void tapeIsTheResult() {
        ZlibBox x = new ZlibBox();
        x.feed(1, 2, 3, 4, 5);
        int packed = x.pack();
        byte[] want = Reference.pack(Boxes.bytes(0, 0, 0, 1, 0, 0, 0, 2, 0, 0, 0, 3, 0, 0, 0, 4, 0, 0, 0, 5));
        Check.due("again()", x.again(), packed);
        Check.due("count(0)", x.count(0), packed);
        Check.due("adler()", x.adler(), Boxes.adler(want));
        Boxes.resultDue("the result stays", x, want);
        Check.due("again() once more", x.again(), packed);
        Check.due("adler() once more", x.adler(), Boxes.adler(want));
    }

    private static void theTwoAreApart() {
        ZlibBox x = new ZlibBox();
        x.feed(1, 2, 3, 4, 5);
        x.pack();
        byte[] want = Reference.pack(Boxes.bytes(0, 0, 0, 1, 0, 0, 0, 2, 0, 0, 0, 3, 0, 0, 0, 4, 0, 0, 0, 5));
        x.again();
        x.end(0);
        x.feed(-1, -1, -1, -1, -1);
        Boxes.resultDue("a feed behind again does not change the result", x, want);
        x.again();
        int adler = x.adler();
        x.pack();
        Check.due("a pack behind again does not change the tape", x.adler(), adler);
    }

    private static void longResultsTooAndEmptyOnes() {
        byte[] all = new byte[Boxes.LIMIT];
        for (int i = 0; i < all.length; i++) {
            all[i] = (byte) (i / 100);
        }
        ZlibBox x = Boxes.loaded(all);
        Check.due("again() of 16384", x.again(), Boxes.LIMIT);
        Check.due("adler() of 16384", x.adler(), Boxes.adler(all));
        x.pack();
        x.again();
        x.unpack();
        Check.due("again() of 16384 once more", x.again(), Boxes.LIMIT);
        Check.due("adler() of 16384 once more", x.adler(), Boxes.adler(all));
        ZlibBox y = new ZlibBox();
        y.feed(1, 2, 3, 4, 5);
        Check.due("again() of an empty result", y.again(), 0);
        Check.due("count(0)", y.count(0), 0);
        Check.due("adler()", y.adler(), Boxes.adler(Arrays.copyOf(all, 0)));
    }
}
