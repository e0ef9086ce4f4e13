import java.util.Arrays;

/** Promise 5: at most 16384 bytes, and the first wrong thing that is met counts. */
public final class UnpackLimitTest {
    public static void main(String[] args) {
        limitByLiterals();
        limitByCopies();
        limitByStored();
        everyCopyToTheLimit();
        everyStoredRowToTheLimit();
        brokenBehindTheLimit();
        brokenAtTheLimit();
        brokenBeforeTheLimit();
        theLongestTapes();
        theBoxGoesOn();
        Check.finish();
    }

    /** The last block, fixed and not yet ended, of so many bytes 65. */
    private static Bits row(int length) {
        return Bits.zlib().fixed(true).run(65, length);
    }

    /** The same in a block that has ended and is not the last. */
    private static Bits before(int length) {
        return Bits.zlib().fixed(false).run(65, length).literal(256);
    }

    private static byte[] content(int length) {
        return Boxes.filled(length, 65);
    }

    private static void limitByLiterals() {
        Unpacking.good("16383", row(16383).end(content(16383)), content(16383));
        Unpacking.good("16384", row(16384).end(content(16384)), content(16384));
        Unpacking.tooMany("16385 by a literal", row(16384).literal(65).end(content(16385)));
        Unpacking.tooMany("16386 by literals", row(16384).literal(65).literal(65).end(content(16386)));
        Unpacking.tooMany("16385", row(16385).end(content(16385)));
    }

    private static void limitByCopies() {
        Unpacking.good("16384 by a copy", row(16381).copy(257, 0, 0, 0).end(content(16384)), content(16384));
        Unpacking.tooMany("16385 by a copy", row(16382).copy(257, 0, 0, 0).end(content(16385)));
        Unpacking.good("16384 by a long copy", row(16384 - 258).longCopy(1).end(content(16384)), content(16384));
        Unpacking.tooMany("16385 by a long copy", row(16385 - 258).longCopy(1).end(content(16385)));
        Unpacking.tooMany("16384 and a copy", row(16384).copy(257, 0, 0, 0).end(content(16387)));
        Unpacking.good("a copy from 16381 back", row(16381).copy(257, 0, 0, 27).number(16381 - 12289, 12).end(content(16384)), content(16384));
        Unpacking.tooMany("a copy from 16384 back", row(16384).copy(257, 0, 0, 27).number(4095, 12).end(content(16387)));
    }

    private static void limitByStored() {
        for (int more = 0; more < 3; more++) {
            byte[] stored = content(100 + more);
            byte[] all = content(16384 + more);
            byte[] tape = before(16284).stored(true, stored).endWithout(all);
            if (more == 0) {
                Unpacking.good("16384 by stored", tape, all);
            } else {
                Unpacking.tooMany("16384 and " + more + " by stored", tape);
            }
        }
        Unpacking.good("16384 and an empty stored block", before(16384).stored(true, new byte[0]).endWithout(content(16384)), content(16384));
    }

    /** Each length of a copy that ends at the last byte there may be, and one byte behind it. */
    private static void everyCopyToTheLimit() {
        for (int length = 3; length <= 258; length++) {
            Bits bits = row(Boxes.LIMIT - length);
            Unpacking.good("16384 by a copy of " + length, copy(bits.copyOf(), length).end(content(16384)), content(16384));
            Unpacking.tooMany("16385 by a copy of " + length, copy(bits.literal(65), length).end(content(16385)));
        }
    }

    private static Bits copy(Bits bits, int length) {
        int symbol = 257;
        int least = 3;
        int more = 0;
        while (symbol < 284 && length >= least + (1 << more)) {
            least += 1 << more;
            symbol++;
            more = Math.max(0, (symbol - 261) / 4);
        }
        return bits.copy(symbol, length - least, more, 0);
    }

    private static void everyStoredRowToTheLimit() {
        for (int n : new int[] {1, 2, 3, 20, 255, 256, 5000}) {
            Unpacking.good(n + " stored bytes to 16384", before(16384 - n).stored(true, content(n)).endWithout(content(16384)), content(16384));
            Unpacking.tooMany(n + " stored bytes to 16385", before(16385 - n).stored(true, content(n)).endWithout(content(16385)));
        }
    }

    /** What is wrong only behind the byte that is too many is never met. */
    private static void brokenBehindTheLimit() {
        Unpacking.tooMany("then 286", row(16384).literal(65).literal(286).end(content(16385)));
        Unpacking.tooMany("then the tape ends", row(16384).literal(65).cut());
        Unpacking.tooMany("then a wrong sum", row(16384).literal(65).end(content(7)));
        Unpacking.tooMany("then more behind", Boxes.joined(row(16384).literal(65).end(content(16385)), content(9)));
        Unpacking.tooMany("then kind 3", row(16384).literal(65).literal(256).number(3, 2).endWithout(content(16385)));
        Unpacking.tooMany("a copy, then the tape ends", row(16384).copy(257, 0, 0, 0).cut());
        Unpacking.tooMany("stored bytes that end too early later", before(16384).storedHead(true, 50, 65485).bytes(content(1)).cut());
    }

    /** What is wrong before one more byte would be written is met first. */
    private static void brokenAtTheLimit() {
        Unpacking.broken("286", row(16384).literal(286).distance(0).end(content(16385)));
        Unpacking.broken("287", row(16384).literal(287).distance(0).end(content(16385)));
        Unpacking.broken("distance 30", row(16384).literal(285).distance(30).end(content(16385)));
        Unpacking.broken("distance 31", row(16384).literal(285).distance(31).end(content(16385)));
        Unpacking.broken("16385 back", row(16384).copy(257, 0, 0, 28).number(0, 13).end(content(16387)));
        Unpacking.broken("32768 back", row(16384).copy(257, 0, 0, 29).number(8191, 13).end(content(16387)));
        Unpacking.broken("the tape ends", row(16384).cut());
        Unpacking.broken("a wrong sum", row(16384).end(content(16383)));
        Unpacking.broken("the numbers of a stored block", before(16384).storedHead(true, 50, 50).bytes(content(50)).cut());
        Unpacking.tooMany("one stored byte more", before(16334).storedHead(true, 60, 65475).bytes(content(51)).cut());
        Unpacking.broken("told codes", before(16384).told(true, new int[257], new int[1]).literal(256).endWithout(content(16384)));
        Unpacking.broken("a copy without distances", before(16384).told(true, copies(), new int[1]).literal(257).bit(0).endWithout(content(9)));
        Unpacking.broken("kind 3", before(16384).number(7, 3).endWithout(content(16384)));
        brokenInsideACopy();
        brokenInsideALiteral();
        noStoredByteAtTheLimit();
    }

    /** The next byte is missing and would be one too many: the document does not say which comes first. */
    private static void noStoredByteAtTheLimit() {
        Unpacking.refused("no byte of a stored block", before(16384).storedHead(true, 50, 65485).cut());
        Unpacking.refused("the stored bytes end at the limit", before(16334).storedHead(true, 60, 65475).bytes(content(50)).cut());
    }

    private static int[] copies() {
        int[] literals = new int[258];
        literals[256] = 1;
        literals[257] = 1;
        return literals;
    }

    /** The tape ends in the bits behind a distance; the byte's other bits would make it whole. */
    private static void brokenInsideACopy() {
        byte[] tape = row(16384).copy(284, 31, 5, 27).number(4095, 12).cut();
        Unpacking.tooMany("a whole copy", tape);
        Unpacking.broken("a copy without its last bits", Arrays.copyOf(tape, tape.length - 2));
    }

    /** The last literal is too many, but only if all of its bits are there: 0 .. 7 of them are cut off. */
    private static void brokenInsideALiteral() {
        for (int shift = 0; shift < 8; shift++) {
            Bits bits = row(16384 - shift);
            for (int i = 0; i < shift; i++) {
                bits.literal(200);
            }
            bits.literal(65);
            byte[] tape = bits.whole();
            if (bits.atByte()) {
                Unpacking.tooMany("a whole literal", tape);
            } else {
                Unpacking.broken("a literal without its last bits, " + shift, tape);
            }
        }
    }

    /** Tapes of 16384 bytes: nothing may be read behind their end. */
    private static void theLongestTapes() {
        byte[] stored = new byte[16373];
        ZlibBox x = Boxes.loaded(Bits.zlib().stored(true, stored).endWithout(stored));
        Check.due("count(0)", x.count(0), 16384);
        Check.due("unpack() of 16384", x.unpack(), 16373);
        byte[][] broken = {
            Bits.zlib().storedHead(true, 16377, 65535 - 16377).bytes(new byte[16377]).cut(),
            Bits.zlib().storedHead(true, 16378, 65535 - 16378).bytes(new byte[16377]).cut(),
            literals(16384 - 2),
        };
        for (byte[] tape : broken) {
            ZlibBox y = Boxes.loaded(tape);
            Check.due("count(0)", y.count(0), 16384);
            Check.throwsDue("unpack() of 16384", UnsupportedOperationException.class, y::unpack);
            Check.due("count(0) behind it", y.count(0), 0);
        }
    }

    private static byte[] literals(int length) {
        Bits bits = Bits.zlib().fixed(true);
        for (int i = 0; i < length; i++) {
            bits.literal(0);
        }
        return bits.whole();
    }

    private static void brokenBeforeTheLimit() {
        Unpacking.broken("286 before many bytes", row(2000).literal(286).literal(65).end(content(2001)));
        Unpacking.broken("65535 stored bytes, few there", Bits.zlib().storedHead(true, 65535, 0).bytes(content(5000)).cut());
    }

    private static void theBoxGoesOn() {
        ZlibBox x = new ZlibBox();
        Boxes.load(x, row(16384).end(content(16384)));
        Check.due("unpack()", x.unpack(), 16384);
        Boxes.load(x, row(16384).literal(66).end(content(16385)));
        Check.throwsDue("unpack()", IndexOutOfBoundsException.class, x::unpack);
        Check.due("count(1)", x.count(1), 16384);
        Check.due("word(16376)", x.word(16376), 0x4141414141414141L);
        Boxes.load(x, Bits.zlib().fixed(true).literal(66).literal(286).end(content(1)));
        Check.throwsDue("unpack()", UnsupportedOperationException.class, x::unpack);
        Check.due("word(0)", x.word(0), 0x4141414141414141L);
        Boxes.load(x, Bits.zlib().fixed(true).literal(66).end(Boxes.bytes(66)));
        Check.due("unpack()", x.unpack(), 1);
        Check.due("word(0)", x.word(0), 66L << 56);
    }
}
