/** Promise 1: a new object's tape and result are empty. */
public final class NewObjectTest {
    public static void main(String[] args) {
        ZlibBox x = new ZlibBox();
        Check.due("count(0)", x.count(0), 0);
        Check.due("count(1)", x.count(1), 0);
        Check.due("adler()", x.adler(), 1);
        Check.throwsDue("word(0)", IndexOutOfBoundsException.class, () -> x.word(0));
        Check.throwsDue("end(1)", IllegalArgumentException.class, () -> x.end(1));
        Check.due("end(0)", x.end(0), 0);
        Check.due("again()", x.again(), 0);
        everyFirstCallFindsBothEmpty();
        refusedCallsLeaveBothEmpty();
        objectsShareNothing();
        Check.finish();
    }

    private static void everyFirstCallFindsBothEmpty() {
        new Held("feed first").feed(1, 2, 3, 4, 5).stateDue();
        new Held("end first").end(0).stateDue();
        new Held("again first").again().stateDue();
        new Held("pack first").pack().stateDue();
        new Held("adler first").adler().stateDue();
        new Held("count(0) first").count(0).stateDue();
        new Held("count(1) first").count(1).stateDue();
    }

    private static void refusedCallsLeaveBothEmpty() {
        new Held("unpack refused first").unpackBroken().unpackBroken().again().feed(1, 2, 3, 4, 5).stateDue();
        new Held("end refused first").endRefused(1).endRefused(-1).feed(1, 2, 3, 4, 5).stateDue();
        new Held("word refused first").wordRefused(0).wordRefused(-1).wordRefused(1).pack().stateDue();
        new Held("count refused first").countRefused(2).countRefused(-1).pack().stateDue();
    }

    private static void objectsShareNothing() {
        ZlibBox x = new ZlibBox();
        x.feed(1, 2, 3, 4, 5);
        x.pack();
        ZlibBox y = new ZlibBox();
        Check.due("count(0) of another object", y.count(0), 0);
        Check.due("count(1) of another object", y.count(1), 0);
        y.feed(-1, -1, -1, -1, -1);
        y.pack();
        Check.due("count(0) of the first object", x.count(0), 20);
        x.pack();
        x.again();
        x.unpack();
        Check.due("word(0) of the first object", x.word(0), 1L << 32 | 2);
    }
}
