import java.util.Arrays;

/** Promise 6: pack, at places that are chosen. */
public final class PackTest {
    public static void main(String[] args) {
        knownRows();
        everyLiteral();
        everyLength();
        theWindow();
        theNearestOfTheLongest();
        thePlacesInsideCopiesCount();
        noLookingAhead();
        theLimit();
        packAgainAndAgain();
        Check.finish();
    }

    /** Packs, looks at the result and at the tape, and unpacks the result once more. */
    private static void packDue(String what, byte[] tape, byte[] want) {
        ZlibBox x = Boxes.loaded(tape);
        Check.due(what + ": pack()", x.pack(), want.length);
        Check.due(what + ": count(0)", x.count(0), tape.length);
        Check.due(what + ": adler()", x.adler(), Boxes.adler(tape));
        Boxes.resultDue(what, x, want);
        x.again();
        Check.due(what + ": unpack()", x.unpack(), tape.length);
        x.again();
        Check.due(what + ": adler() of what comes back", x.adler(), Boxes.adler(tape));
    }

    private static void knownRows() {
        packDue("nothing", new byte[0], Boxes.bytes(120, 1, 3, 0, 0, 0, 0, 1));
        packDue("a", Boxes.bytes('a'), Boxes.bytes(120, 1, 0x4B, 0x04, 0x00, 0x00, 0x62, 0x00, 0x62));
        packDue("aa", Boxes.bytes('a', 'a'), Bits.zlib().fixed(true).literal('a').literal('a').literal(256).number(0, 6)
                .endWithout(Boxes.bytes('a', 'a')));
        Check.bytesDue("the other reading of aaaa", Reference.pack(Boxes.filled(4, 'a')),
                written(Boxes.filled(4, 'a'), Bits.zlib().fixed(true).literal('a').copy(257, 0, 0, 0)));
        byte[] three = Boxes.filled(3, 'a');
        packDue("aaa", three, written(three, Bits.zlib().fixed(true).literal('a').literal('a').literal('a')));
        byte[] four = Boxes.filled(4, 'a');
        packDue("aaaa", four, written(four, Bits.zlib().fixed(true).literal('a').copy(257, 0, 0, 0)));
        byte[] high = Boxes.filled(4, 255);
        packDue("255 four times", high, written(high, Bits.zlib().fixed(true).literal(255).copy(257, 0, 0, 0)));
    }

    /** The end of the block, zeros up to the next byte, and the sum. */
    private static byte[] written(byte[] tape, Bits bits) {
        bits.literal(256);
        while (!bits.atByte()) {
            bits.bit(0);
        }
        return bits.endWithout(tape);
    }

    private static void everyLiteral() {
        byte[] tape = new byte[256];
        Bits bits = Bits.zlib().fixed(true);
        for (int i = 0; i < 256; i++) {
            tape[i] = (byte) i;
            bits.literal(i);
        }
        packDue("all literals", tape, written(tape, bits));
    }

    private static void everyLength() {
        for (int n = 1; n <= 540; n++) {
            byte[] tape = Boxes.filled(n, 65);
            packDue(n + " times 65", tape, Reference.pack(tape));
        }
        byte[] tape = Boxes.filled(259, 200);
        packDue("258 is one symbol", tape, written(tape, Bits.zlib().fixed(true).literal(200).longCopy(1)));
        byte[] more = Boxes.filled(260, 200);
        packDue("258 and a byte", more, written(more, Bits.zlib().fixed(true).literal(200).longCopy(1).literal(200)));
        byte[] last = Boxes.filled(258, 200);
        packDue("257", last, written(last, Bits.zlib().fixed(true).literal(200).copy(284, 30, 5, 0)));
    }

    private static void theWindow() {
        for (int distance = 4090; distance <= 4102; distance++) {
            byte[] row = Rows.withoutCopies(distance - 4);
            byte[] tape = Boxes.joined(Boxes.bytes(1, 2, 3, 4), row, Boxes.bytes(1, 2, 3, 4));
            byte[] want = Reference.pack(tape);
            packDue("the same " + distance + " bytes back", tape, want);
            int literals = distance <= 4096 ? 0 : 4;
            int bits = 3 + 4 * 8 + bitsOf(row) + 8 * literals + (literals == 0 ? 7 + 5 + 10 : 0) + 7;
            Check.due("length for " + distance + " back", want.length, 2 + (bits + 7) / 8 + 4);
        }
        for (int distance : new int[] {3, 4, 5, 6, 7, 8, 9, 12, 13, 16, 17, 24, 25, 32, 33, 48, 49, 64, 65, 96, 97, 128,
            129, 192, 193, 256, 257, 384, 385, 512, 513, 768, 769, 1024, 1025, 1536, 1537, 2048, 2049, 3072, 3073}) {
            byte[] tape = Boxes.joined(Boxes.bytes(1, 2, 3), Rows.withoutCopies(distance - 3), Boxes.bytes(1, 2, 3));
            packDue("three bytes " + distance + " back", tape, Reference.pack(tape));
        }
        farthestIsBetter();
    }

    private static int bitsOf(byte[] row) {
        int bits = 0;
        for (byte value : row) {
            bits += (value & 255) < 144 ? 8 : 9;
        }
        return bits;
    }

    /** The longer copy is 4096 back, or 4097 and out of reach, and a shorter one is nearer. */
    private static void farthestIsBetter() {
        for (int distance = 4095; distance <= 4098; distance++) {
            byte[] row = Rows.withoutCopies(distance - 9);
            byte[] tape = Boxes.joined(Boxes.bytes(1, 2, 3, 4, 5), row, Boxes.bytes(1, 2, 3, 9), Boxes.bytes(1, 2, 3, 4, 5));
            packDue("the longer copy is " + distance + " back", tape, Reference.pack(tape));
        }
    }

    private static void theNearestOfTheLongest() {
        byte[] tape = Boxes.bytes(1, 2, 3, 4, 9, 1, 2, 3, 4, 8, 1, 2, 3, 7, 1, 2, 3, 4);
        Bits bits = Bits.zlib().fixed(true).literal(1).literal(2).literal(3).literal(4).literal(9);
        bits.copy(258, 0, 0, 4).number(0, 1).literal(8);
        bits.copy(257, 0, 0, 4).number(0, 1).literal(7);
        bits.copy(258, 0, 0, 6).number(0, 2);
        packDue("the nearest of the longest", tape, written(tape, bits));
        byte[] periods = Boxes.bytes(1, 2, 1, 2, 1, 2, 1, 2, 1, 2, 1);
        packDue("it reaches into itself", periods, written(periods, Bits.zlib().fixed(true).literal(1).literal(2).copy(263, 0, 0, 1)));
    }

    private static void thePlacesInsideCopiesCount() {
        byte[] tape = Boxes.bytes(1, 2, 3, 4, 5, 6, 7, 1, 2, 3, 4, 5, 6, 7, 20, 4, 5, 6, 21, 5, 6, 7);
        Bits bits = Bits.zlib().fixed(true);
        for (int i = 1; i <= 7; i++) {
            bits.literal(i);
        }
        bits.copy(261, 0, 0, 5).number(0, 1).literal(20);
        bits.copy(257, 0, 0, 4).number(0, 1).literal(21);
        bits.copy(257, 0, 0, 5).number(1, 1);
        packDue("copies from inside copies", tape, written(tape, bits));
    }

    /** The longer copy one place later is not waited for. */
    private static void noLookingAhead() {
        byte[] tape = Boxes.bytes(1, 2, 3, 9, 2, 3, 4, 5, 6, 7, 8, 10, 1, 2, 3, 4, 5, 6, 7, 8);
        Bits bits = Bits.zlib().fixed(true);
        for (int i = 0; i < 12; i++) {
            bits.literal(tape[i]);
        }
        bits.copy(257, 0, 0, 6).number(3, 2);
        bits.copy(259, 0, 0, 6).number(0, 2);
        packDue("no looking ahead", tape, written(tape, bits));
    }

    private static void theLimit() {
        for (int length = 14550; length <= 14565; length++) {
            byte[] tape = Rows.incompressible(length);
            int want = 2 + (3 + 9 * length + 7 + 7) / 8 + 4;
            ZlibBox x = Boxes.loaded(tape);
            if (want <= Boxes.LIMIT) {
                Check.due("pack() of " + length, x.pack(), want);
                Boxes.resultDue("pack() of " + length, x, Reference.pack(tape));
            } else {
                Check.throwsDue("pack() of " + length, IndexOutOfBoundsException.class, x::pack);
                Check.due("count(0) behind it", x.count(0), length);
                Check.due("adler() behind it", x.adler(), Boxes.adler(tape));
                Check.due("count(1) behind it", x.count(1), length);
                Check.due("word(0) behind it", x.word(0), Boxes.wordAt(tape, 0));
                x.end(30);
                x.pack();
                Boxes.resultDue("pack() behind it", x, Reference.pack(Arrays.copyOf(tape, 30)));
            }
        }
        byte[] zeros = new byte[Boxes.LIMIT];
        packDue("16384 zeros", zeros, Reference.pack(zeros));
    }

    /** What one call has found must not be found by the next. */
    private static void packAgainAndAgain() {
        byte[] first = Boxes.bytes(1, 2, 3, 4, 5, 6, 7, 8, 9, 10, 11, 12);
        ZlibBox x = Boxes.loaded(first);
        for (int i = 0; i < 3; i++) {
            Check.due("pack() once more", x.pack(), Reference.pack(first).length);
            Boxes.resultDue("pack() once more", x, Reference.pack(first));
        }
        byte[] second = Boxes.bytes(9, 9, 9, 9, 9, 4, 5, 6, 7, 8, 9, 10);
        Boxes.load(x, second);
        x.pack();
        Boxes.resultDue("another tape", x, Reference.pack(second));
        x.end(5);
        x.pack();
        Boxes.resultDue("a shorter tape", x, Reference.pack(Arrays.copyOf(second, 5)));
        x.end(4);
        x.pack();
        Boxes.resultDue("a tape whose bytes go on behind its end", x, Reference.pack(Arrays.copyOf(second, 4)));
    }
}
