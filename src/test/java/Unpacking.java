/** Unpacks rows in boxes that have a result already, and looks at all that the call changes. */
final class Unpacking {
    private static final long EMPTY_PACKED = 0x7801030000000001L;

    private Unpacking() {
    }

    static void good(String what, byte[] tape, byte[] content) {
        ZlibBox x = boxWithResult(tape);
        long got;
        try {
            got = x.unpack();
        } catch (UnsupportedOperationException e) {
            got = -1;
        } catch (IndexOutOfBoundsException e) {
            got = -2;
        }
        Check.due(what + ": unpack() (-1 broken, -2 too many)", got, content.length);
        Check.due(what + ": count(0)", x.count(0), 0);
        if (got == content.length) {
            Boxes.resultDue(what, x, content);
        }
    }

    static void broken(String what, byte[] tape) {
        ZlibBox x = boxWithResult(tape);
        Check.throwsDue(what + ": unpack()", UnsupportedOperationException.class, x::unpack);
        onlyTheTapeIsEmpty(what, x);
    }

    static void tooMany(String what, byte[] tape) {
        ZlibBox x = boxWithResult(tape);
        Check.throwsDue(what + ": unpack()", IndexOutOfBoundsException.class, x::unpack);
        onlyTheTapeIsEmpty(what, x);
    }

    /** Thrown is one of the two, and the state is what it has to be behind both. */
    static void refused(String what, byte[] tape) {
        ZlibBox x = boxWithResult(tape);
        boolean thrown = false;
        try {
            x.unpack();
        } catch (UnsupportedOperationException | IndexOutOfBoundsException e) {
            thrown = true;
        }
        Check.isTrue(what + ": unpack() throws", thrown);
        onlyTheTapeIsEmpty(what, x);
    }

    private static ZlibBox boxWithResult(byte[] tape) {
        ZlibBox x = new ZlibBox();
        x.pack();
        Boxes.feed(x, tape);
        return x;
    }

    private static void onlyTheTapeIsEmpty(String what, ZlibBox x) {
        Check.due(what + ": count(0)", x.count(0), 0);
        Check.due(what + ": count(1)", x.count(1), 8);
        Check.due(what + ": word(0)", x.word(0), EMPTY_PACKED);
        Check.due(what + ": adler()", x.adler(), 1);
    }
}
