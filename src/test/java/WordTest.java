/** Promise 8: word. */
public final class WordTest {
    public static void main(String[] args) {
        everyPlaceOfAShortResult();
        theEndOfTheLongestResult();
        bytesLeftOverAreNotSeen();
        theEndsOfResults();
        Check.finish();
    }

    private static void everyPlaceOfAShortResult() {
        byte[] row = new byte[45];
        for (int i = 0; i < 45; i++) {
            row[i] = (byte) (255 - 3 * i);
        }
        ZlibBox x = unpacked(row);
        Check.due("the highest byte first", x.word(0), 0xFFFCF9F6F3F0EDEAL);
        Check.due("zeros behind the end", x.word(44), 0x7BL << 56);
        Check.due("one zero behind the end", x.word(38), 0x8D8A8784817E7B00L);
        for (int i = 0; i < 45; i++) {
            Check.due("word(" + i + ")", x.word(i), Boxes.wordAt(row, i));
        }
        for (int i : new int[] {-1, -8, 45, 46, 53, 16384, Integer.MAX_VALUE, Integer.MIN_VALUE}) {
            Check.throwsDue("word(" + i + ")", IndexOutOfBoundsException.class, () -> x.word(i));
        }
        Check.due("count(1) behind all this", x.count(1), 45);
        Check.due("count(0) behind all this", x.count(0), 0);
    }

    private static ZlibBox unpacked(byte[] row) {
        ZlibBox x = Boxes.loaded(row);
        x.pack();
        x.again();
        x.unpack();
        return x;
    }

    private static void theEndOfTheLongestResult() {
        byte[] row = new byte[Boxes.LIMIT];
        for (int i = 0; i < row.length; i++) {
            row[i] = (byte) (i % 251 + 1);
        }
        ZlibBox x = unpacked(row);
        for (int i = Boxes.LIMIT - 12; i < Boxes.LIMIT; i++) {
            Check.due("word(" + i + ")", x.word(i), Boxes.wordAt(row, i));
        }
        Check.throwsDue("word(16384)", IndexOutOfBoundsException.class, () -> x.word(Boxes.LIMIT));
    }

    /** A shorter result stands where longer ones stood before. */
    private static void bytesLeftOverAreNotSeen() {
        ZlibBox x = unpacked(Boxes.filled(40, 255));
        Boxes.load(x, Boxes.filled(40, 254));
        x.pack();
        x.again();
        x.unpack();
        for (int round = 0; round < 2; round++) {
            Boxes.load(x, Bits.zlib().stored(true, Boxes.bytes(1, 2, 3)).endWithout(Boxes.bytes(1, 2, 3)));
            Check.due("unpack()", x.unpack(), 3);
            Check.due("word(0)", x.word(0), 0x0102030000000000L);
            Check.due("word(2)", x.word(2), 3L << 56);
            Check.throwsDue("word(3)", IndexOutOfBoundsException.class, () -> x.word(3));
        }
    }

    /** "zeros behind its end; i is none of its bytes": results of 0, 1, 7, 8, 9 and 16384 bytes. */
    private static void theEndsOfResults() {
        for (int length : new int[] {0, 1, 2, 7, 8, 9, 15, 16, 17, 255, 256, 257, 16383, 16384}) {
            Held x = Held.unpacked("a result of " + length, Rows.pattern(length)).stateDue();
            for (int i = Math.max(0, length - 17); i < length; i++) {
                x.word(i);
            }
            x.wordRefused(-1).wordRefused(-8).wordRefused(Integer.MIN_VALUE);
            x.wordRefused(length).wordRefused(length + 1).wordRefused(length + 7).wordRefused(length + 8);
            x.wordRefused(65536).wordRefused(Integer.MAX_VALUE).wordRefused(Integer.MAX_VALUE - 7);
            // The tape's bytes are none of the result's.
            x.feed(-1, -1, -1, -1, -1).wordRefused(length).again().stateDue();
        }
    }
}
