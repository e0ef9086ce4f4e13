import java.util.Arrays;

/** Promise 6: the edges of what is WRITTEN, and what pack leaves of the tape and of the result. */
public final class PackEdgesTest {
    private static final byte[] MARK = Boxes.bytes(1, 2, 3);

    public static void main(String[] args) {
        theTapeStays();
        theShortestTapes();
        theShortestCopy();
        theLongestCopy();
        theFarthestCopy();
        theNearestOfTheLongest();
        copiesThatReachIntoThemselves();
        theFullResult();
        theFullTape();
        Check.finish();
    }

    /** Packs, compares the whole result, and finds the tape as it was. */
    private static void packDue(String what, byte[] tape, Bits want) {
        byte[] written = written(tape, want);
        Check.bytesDue("the other reading of " + what, Reference.pack(tape), written);
        Held x = new Held(what);
        if (tape.length > 1000) {
            x = Held.holding(what, tape);
        } else {
            x.tape(tape);
        }
        x.pack(written).stateDue().again().stateDue().unpack(tape).again().stateDue();
    }

    private static byte[] written(byte[] tape, Bits bits) {
        bits.literal(256);
        while (!bits.atByte()) {
            bits.bit(0);
        }
        return bits.endWithout(tape);
    }

    private static Bits literals(Bits bits, byte[] row) {
        for (byte value : row) {
            bits.literal(value & 255);
        }
        return bits;
    }

    private static Bits start() {
        return Bits.zlib().fixed(true);
    }

    /** "The TAPE stays.", and goes on to be fed, cut and packed. */
    private static void theTapeStays() {
        for (int length : new int[] {0, 1, 3, 20, 4096, 16384}) {
            Held x = Held.holding("a tape of " + length, Rows.pattern(length)).pack().stateDue().pack().stateDue();
            x.end(length / 2).stateDue().pack().stateDue().feed(1, 2, 3, 4, 5).stateDue().pack().stateDue();
        }
    }

    private static void theShortestTapes() {
        packDue("nothing", new byte[0], start());
        for (int value : new int[] {0, 143, 144, 255}) {
            packDue("one byte " + value, Boxes.bytes(value), start().literal(value));
            packDue("two bytes " + value, Boxes.filled(2, value), start().literal(value).literal(value));
            packDue("three bytes " + value, Boxes.filled(3, value), start().literal(value).literal(value).literal(value));
            packDue("four bytes " + value, Boxes.filled(4, value), start().literal(value).copy(257, 0, 0, 0));
        }
    }

    /** "3 .. 258 bytes": two bytes alike are none, three are one, at the end of the tape and before it. */
    private static void theShortestCopy() {
        byte[] head = Boxes.bytes(1, 2, 3, 4, 9);
        Bits start = literals(start(), head);
        packDue("two alike at the end", Boxes.joined(head, Boxes.bytes(1, 2)), start.copyOf().literal(1).literal(2));
        packDue("two alike", Boxes.joined(head, Boxes.bytes(1, 2, 7)), start.copyOf().literal(1).literal(2).literal(7));
        Bits three = start.copyOf().copy(257, 0, 0, 4).number(0, 1);
        packDue("three alike at the end", Boxes.joined(head, MARK), three.copyOf());
        packDue("three alike", Boxes.joined(head, MARK, Boxes.bytes(7)), three.copyOf().literal(7));
        packDue("four alike", Boxes.joined(head, MARK, Boxes.bytes(4)), start.copyOf().copy(258, 0, 0, 4).number(0, 1));
        // The bytes behind the end are still there in the row that holds the tape, but do not count.
        Held x = new Held("three alike, cut to two").feed(0x01020309, 0x01020300, 0, 0, 0).end(6).pack().stateDue();
        x.feed(0, 0, 0, 0, 0).end(7).stateDue().pack().stateDue();
    }

    /** 258 bytes are one copy; what is alike behind them is for the next. */
    private static void theLongestCopy() {
        byte[] row = Rows.withoutCopies(300);
        Bits start = literals(start(), row);
        Bits whole = start.copyOf().literal(285).distance(16).number(300 - 257, 7);
        packDue("257", Boxes.joined(row, Arrays.copyOf(row, 257)), start.copyOf().literal(284).number(30, 5).distance(16).number(43, 7));
        packDue("258", Boxes.joined(row, Arrays.copyOf(row, 258)), whole.copyOf());
        packDue("259", Boxes.joined(row, Arrays.copyOf(row, 259)), whole.copyOf().literal(row[258] & 255));
        packDue("260", Boxes.joined(row, Arrays.copyOf(row, 260)), whole.copyOf().literal(row[258] & 255).literal(row[259] & 255));
        packDue("261", Boxes.joined(row, Arrays.copyOf(row, 261)), whole.copyOf().literal(257).distance(16).number(43, 7));
    }

    /** "from at most 4096 back": 4096 is still right and 4097 is not, wherever on the tape they stand. */
    private static void theFarthestCopy() {
        int[] places = {0, 1, 2, 3, 100, 4093, 4094, 4095, 4096, 4097, 8190, 8191, 8192, 8193, 12280, 12281, 12282, 12283};
        for (int place : places) {
            for (int distance = 4095; distance <= 4097; distance++) {
                if (place + distance + 3 <= Boxes.LIMIT) {
                    markAgain(place, distance);
                }
            }
        }
    }

    /** Zeros up to the place, the mark, a row without copies, and the mark once more, so far behind itself. */
    private static void markAgain(int place, int distance) {
        byte[] row = Rows.withoutCopies(distance - 3);
        byte[] tape = Boxes.joined(new byte[place], MARK, row, MARK);
        Bits bits = start();
        if (place > 3) {
            bits.literal(0);
            zeroCopies(bits, place - 1);
        } else {
            literals(bits, new byte[place]);
        }
        literals(literals(bits, MARK), row);
        if (distance <= 4096) {
            bits.copy(257, 0, 0, 23).number(distance - 3073, 10);
        } else {
            literals(bits, MARK);
        }
        packDue(distance + " back at " + (place + distance), tape, bits);
    }

    /** Copies of 258 zeros as long as there are so many; what is left is in the row of the document. */
    private static void zeroCopies(Bits bits, int zeros) {
        int left = zeros;
        for (; left >= 258; left -= 258) {
            bits.longCopy(1);
        }
        if (left < 3) {
            literals(bits, new byte[left]);
            return;
        }
        int symbol = 257;
        int least = 3;
        while (least + (1 << Math.max(0, (symbol - 261) / 4)) <= left) {
            least += 1 << Math.max(0, (symbol - 261) / 4);
            symbol++;
        }
        bits.copy(symbol, left - least, Math.max(0, (symbol - 261) / 4), 0);
    }

    /** "the longest copy", then "the nearest of these": farther ones win only if they are longer. */
    private static void theNearestOfTheLongest() {
        byte[] twice = Boxes.bytes(1, 2, 3, 9, 1, 2, 3, 8, 1, 2, 3);
        Bits start = start().literal(1).literal(2).literal(3).literal(9).copy(257, 0, 0, 3).literal(8);
        packDue("the nearest of two", twice, start.copyOf().copy(257, 0, 0, 3));
        byte[] longer = Boxes.joined(twice, Boxes.bytes(9, 8));
        packDue("the farther is longer", longer, start.copyOf().copy(258, 0, 0, 5).number(1, 1).literal(8));
        byte[] nearer = Boxes.joined(twice, Boxes.bytes(8, 9));
        packDue("the nearer is longer", nearer, start.copyOf().copy(258, 0, 0, 3).literal(9));
        byte[] row = Rows.withoutCopies(258);
        byte[] long3 = Boxes.joined(row, row, row);
        Bits most = literals(start(), row).literal(285).distance(16).number(1, 7).literal(285).distance(16).number(1, 7);
        packDue("the nearest of two of 258", long3, most);
        farthestAgainstNearer();
    }

    /** A copy of four bytes from 4096 back is better than three from near; from 4097 back it is none. */
    private static void farthestAgainstNearer() {
        for (int distance = 4096; distance <= 4097; distance++) {
            byte[] row = Rows.withoutCopies(distance - 8);
            byte[] tape = Boxes.joined(MARK, Boxes.bytes(4), row, MARK, Boxes.bytes(5), MARK, Boxes.bytes(4));
            Bits bits = literals(start(), MARK).literal(4);
            literals(bits, row).copy(257, 0, 0, 23).number(distance - 4 - 3073, 10).literal(5);
            if (distance == 4096) {
                bits.copy(258, 0, 0, 23).number(1023, 10);
            } else {
                bits.copy(257, 0, 0, 3).literal(4);
            }
            packDue("four from " + distance + " or three from 4", tape, bits);
        }
    }

    /** "it may reach into what it writes itself": from 1, 2 and 3 back, as long as can be. */
    private static void copiesThatReachIntoThemselves() {
        packDue("259 from 1", Boxes.filled(259, 7), start().literal(7).longCopy(1));
        for (int distance = 1; distance <= 4; distance++) {
            byte[] tape = new byte[distance + 258];
            Bits bits = start();
            for (int i = 0; i < tape.length; i++) {
                tape[i] = (byte) (i % distance + 1);
                if (i < distance) {
                    bits.literal(i + 1);
                }
            }
            packDue("258 from " + distance, tape, bits.longCopy(distance));
        }
    }

    /** "More than 16384 bytes": 14557 bytes of 9 bits make 16384, and one more makes 16385. */
    private static void theFullResult() {
        Held x = Held.holding("16384 bytes WRITTEN", Rows.incompressible(14557)).pack().count(1).stateDue();
        Check.due("bytes of the full result", x.result().length, Boxes.LIMIT);
        x.again().stateDue().unpack(Rows.incompressible(14557)).stateDue();
        for (int length = 14558; length <= 14563; length++) {
            Held y = Held.holding(length + " bytes are too many", Rows.incompressible(length)).packRefused();
            y.end(14557).stateDue().pack().stateDue();
        }
        byte[] row = Rows.incompressible(14558);
        Held z = Held.holding("a result that is not the tape", Arrays.copyOf(row, 13558));
        for (int i = 13558; i < 14558; i += 20) {
            z.feed(Arrays.copyOfRange(row, i, i + 20));
        }
        z.stateDue().packRefused().again().stateDue();
    }

    private static void theFullTape() {
        byte[] zeros = new byte[Boxes.LIMIT];
        Bits bits = start().literal(0);
        zeroCopies(bits, Boxes.LIMIT - 1);
        packDue("16384 zeros", zeros, bits);
        Held x = Held.holding("16384 bytes", Rows.pattern(Boxes.LIMIT)).pack().stateDue().feedRefused(1, 2, 3, 4, 5);
        x.again().unpack(Rows.pattern(Boxes.LIMIT)).again().stateDue();
    }
}
