import java.io.ByteArrayOutputStream;

/** Writes ZLIB bit by bit, right or wrong, as a test wants it. */
final class Bits {
    /** CODES for all 19 length symbols: 13 of 4 bits and 6 of 5 use up all words. */
    static final int[] PLAIN_LENGTH_CODES = {4, 4, 4, 4, 4, 4, 4, 4, 4, 4, 4, 4, 4, 5, 5, 5, 5, 5, 5};
    private static final int[] ORDER = {16, 17, 18, 0, 8, 7, 9, 6, 10, 5, 11, 4, 12, 3, 13, 2, 14, 1, 15};

    private final ByteArrayOutputStream out = new ByteArrayOutputStream();
    private int held;
    private int count;
    private int[] literalLengths;
    private int[] distanceLengths;
    private int[] literalCodes;
    private int[] distanceCodes;

    static Bits zlib() {
        return new Bits().number(120, 8).number(1, 8);
    }

    Bits bit(int bit) {
        held |= bit << count;
        count++;
        if (count == 8) {
            out.write(held);
            held = 0;
            count = 0;
        }
        return this;
    }

    Bits number(int number, int bits) {
        for (int i = 0; i < bits; i++) {
            bit(number >> i & 1);
        }
        return this;
    }

    Bits code(int code, int bits) {
        for (int i = bits - 1; i >= 0; i--) {
            bit(code >> i & 1);
        }
        return this;
    }

    /** What is filled up does not count, so ones show more than zeros would. */
    Bits toByte() {
        while (count != 0) {
            bit(1);
        }
        return this;
    }

    boolean atByte() {
        return count == 0;
    }

    Bits bytes(byte[] bytes) {
        for (byte value : bytes) {
            number(value & 255, 8);
        }
        return this;
    }

    Bits stored(boolean last, byte[] content) {
        return storedHead(last, content.length, 65535 - content.length).bytes(content);
    }

    Bits storedHead(boolean last, int n, int other) {
        return number(last ? 1 : 0, 1).number(0, 2).toByte().number(n, 16).number(other, 16);
    }

    Bits fixed(boolean last) {
        return codes(fixedLiterals(), fixedDistances()).number(last ? 1 : 0, 1).number(1, 2);
    }

    /** A block with told CODES, every length of them written by itself. */
    Bits told(boolean last, int[] literals, int[] distances) {
        toldHead(last, literals.length, distances.length, PLAIN_LENGTH_CODES);
        for (int length : literals) {
            length(length);
        }
        for (int length : distances) {
            length(length);
        }
        return codes(literals, distances);
    }

    Bits toldHead(boolean last, int literals, int distances, int[] lengthCodes) {
        number(last ? 1 : 0, 1).number(2, 2);
        number(literals - 257, 5).number(distances - 1, 5).number(15, 4);
        for (int symbol : ORDER) {
            number(symbol < lengthCodes.length ? lengthCodes[symbol] : 0, 3);
        }
        return this;
    }

    Bits length(int symbol) {
        return code(codesOf(PLAIN_LENGTH_CODES)[symbol], PLAIN_LENGTH_CODES[symbol]);
    }

    /** From here on symbols are written in the CODES of these lengths. */
    Bits codes(int[] literals, int[] distances) {
        literalLengths = literals;
        distanceLengths = distances;
        literalCodes = codesOf(literals);
        distanceCodes = codesOf(distances);
        return this;
    }

    Bits literal(int symbol) {
        return code(literalCodes[symbol], literalLengths[symbol]);
    }

    Bits distance(int symbol) {
        return code(distanceCodes[symbol], distanceLengths[symbol]);
    }

    /** A copy of the longest length from a distance of 1 .. 4. */
    Bits longCopy(int distance) {
        return literal(285).distance(distance - 1);
    }

    /** So many times the same byte in the fixed block that has begun, in few bits. */
    Bits run(int value, int length) {
        int left = length;
        if (left > 0) {
            literal(value);
            left--;
        }
        for (; left >= 258; left -= 258) {
            longCopy(1);
        }
        for (; left >= 10; left -= 10) {
            copy(264, 0, 0, 0);
        }
        for (; left > 0; left--) {
            literal(value);
        }
        return this;
    }

    Bits copy(int lengthSymbol, int more, int moreBits, int distanceSymbol) {
        return literal(lengthSymbol).number(more, moreBits).distance(distanceSymbol);
    }

    /** The ends of the last block and of ZLIB, for what was written. */
    byte[] end(byte[] content) {
        return literal(256).endWithout(content);
    }

    byte[] endWithout(byte[] content) {
        int adler = Boxes.adler(content);
        return toByte().bytes(Boxes.bytes(adler >> 24, adler >> 16, adler >> 8, adler)).cut();
    }

    /** The same once more, so that one beginning can have several ends. */
    Bits copyOf() {
        Bits other = new Bits();
        other.out.writeBytes(out.toByteArray());
        other.held = held;
        other.count = count;
        return literalLengths == null ? other : other.codes(literalLengths, distanceLengths);
    }

    /** The whole bytes of what stands here so far; the bits behind them are left out. */
    byte[] whole() {
        return out.toByteArray();
    }

    /** What stands here so far, filled up to whole bytes. */
    byte[] cut() {
        return toByte().out.toByteArray();
    }

    static int[] fixedLiterals() {
        int[] lengths = new int[288];
        for (int i = 0; i < 288; i++) {
            lengths[i] = i < 144 ? 8 : i < 256 ? 9 : i < 280 ? 7 : 8;
        }
        return lengths;
    }

    static int[] fixedDistances() {
        int[] lengths = new int[32];
        java.util.Arrays.fill(lengths, 5);
        return lengths;
    }

    static int[] codesOf(int[] lengths) {
        int[] codes = new int[lengths.length];
        int next = 0;
        for (int length = 1; length <= 15; length++) {
            next *= 2;
            for (int i = 0; i < lengths.length; i++) {
                if (lengths[i] == length) {
                    codes[i] = next;
                    next++;
                }
            }
        }
        return codes;
    }
}
