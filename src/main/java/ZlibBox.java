import java.util.Arrays;

/**
 * ZLIB both ways: compressed data are read strictly, with stored, fixed and told codes, and
 * written with the longest copies in a window, in one defined way.
 */
public final class ZlibBox {
    /** The most bytes that the tape or the result may have. */
    private static final int LIMIT = 16384;

    /** The most bits on a tape: a bound for every loop that reads a bit each time round. */
    private static final int MOST_BITS = 8 * LIMIT;

    private static final int BYTES_FED = 20;
    private static final int ADLER_MODULUS = 65521;
    private static final int BLOCK_END = 256;
    private static final int FIRST_LENGTH = 257;

    private static final int[] LENGTH_BASES = {
        3, 4, 5, 6, 7, 8, 9, 10, 11, 13, 15, 17, 19, 23, 27, 31,
        35, 43, 51, 59, 67, 83, 99, 115, 131, 163, 195, 227, 258
    };
    private static final int[] LENGTH_BITS = {
        0, 0, 0, 0, 0, 0, 0, 0, 1, 1, 1, 1, 2, 2, 2, 2,
        3, 3, 3, 3, 4, 4, 4, 4, 5, 5, 5, 5, 0
    };
    private static final int[] DISTANCE_BASES = {
        1, 2, 3, 4, 5, 7, 9, 13, 17, 25, 33, 49, 65, 97, 129, 193,
        257, 385, 513, 769, 1025, 1537, 2049, 3073, 4097, 6145, 8193, 12289, 16385, 24577
    };
    private static final int[] DISTANCE_BITS = {
        0, 0, 0, 0, 1, 1, 2, 2, 3, 3, 4, 4, 5, 5, 6, 6,
        7, 7, 8, 8, 9, 9, 10, 10, 11, 11, 12, 12, 13, 13
    };

    private final byte[] tape;
    private int tapeLength;
    private byte[] result;
    private int resultLength;

    /** What a call writes before it is known to succeed: the result stays if the call throws. */
    private byte[] draft;

    private final Unpacker unpacker;
    private final Packer packer;

    public ZlibBox() {
        tape = new byte[LIMIT];
        result = new byte[LIMIT];
        draft = new byte[LIMIT];
        unpacker = new Unpacker();
        packer = new Packer();
    }

    public int feed(int a, int b, int c, int d, int e) throws IndexOutOfBoundsException {
        if (tapeLength + BYTES_FED > LIMIT) {
            throw new IndexOutOfBoundsException("the tape would be too long");
        }
        putInt(tapeLength, a);
        putInt(tapeLength + 4, b);
        putInt(tapeLength + 8, c);
        putInt(tapeLength + 12, d);
        putInt(tapeLength + 16, e);
        tapeLength += BYTES_FED;
        return tapeLength;
    }

    public int end(int n) throws IllegalArgumentException {
        if (n < 0 || n > tapeLength) {
            throw new IllegalArgumentException("the tape has no such end");
        }
        tapeLength = n;
        return n;
    }

    public int again() {
        System.arraycopy(result, 0, tape, 0, resultLength);
        tapeLength = resultLength;
        return tapeLength;
    }

    public int unpack() throws UnsupportedOperationException, IndexOutOfBoundsException {
        int length = tapeLength;
        // Emptied before it is read, since the tape is empty even if the reading throws.
        tapeLength = 0;
        return keepDraft(unpacker.read(tape, length, draft));
    }

    public int pack() throws IndexOutOfBoundsException {
        return keepDraft(packer.write(tape, tapeLength, draft));
    }

    public int adler() {
        return adlerOf(tape, tapeLength);
    }

    public long word(int i) throws IndexOutOfBoundsException {
        if (i < 0 || i >= resultLength) {
            throw new IndexOutOfBoundsException("no byte of the result");
        }
        long word = 0;
        for (int k = 0; k < 8; k++) {
            int value = k < resultLength - i ? result[i + k] & 255 : 0;
            word = word << 8 | value;
        }
        return word;
    }

    public int count(int what) throws IllegalArgumentException {
        if (what == 0) {
            return tapeLength;
        }
        if (what == 1) {
            return resultLength;
        }
        throw new IllegalArgumentException("only 0 and 1 are counted");
    }

    private void putInt(int place, int value) {
        tape[place] = (byte) (value >> 24);
        tape[place + 1] = (byte) (value >> 16);
        tape[place + 2] = (byte) (value >> 8);
        tape[place + 3] = (byte) value;
    }

    /** The two rows change places, so that no call has to make a new one. */
    private int keepDraft(int length) {
        byte[] old = result;
        result = draft;
        draft = old;
        resultLength = length;
        return length;
    }

    private static int adlerOf(byte[] bytes, int length) {
        int a = 1;
        int b = 0;
        for (int i = 0; i < length; i++) {
            a = (a + (bytes[i] & 255)) % ADLER_MODULUS;
            b = (b + a) % ADLER_MODULUS;
        }
        return b << 16 | a;
    }

    /** The bits of a tape from the first on; what would be read behind the end is BROKEN. */
    private static final class BitReader {
        private byte[] bytes;
        private int bitEnd;
        private int place;

        BitReader() {
            bytes = new byte[0];
        }

        void open(byte[] source, int length) {
            bytes = source;
            bitEnd = 8 * length;
            place = 0;
        }

        int bit() {
            if (place >= bitEnd) {
                throw new UnsupportedOperationException("ends too early");
            }
            int bit = bytes[place >> 3] >> (place & 7) & 1;
            place++;
            return bit;
        }

        int number(int bits) {
            if (bits > bitEnd - place) {
                throw new UnsupportedOperationException("ends too early");
            }
            int number = 0;
            for (int i = 0; i < bits; i++) {
                number |= (bytes[place >> 3] >> (place & 7) & 1) << i;
                place++;
            }
            return number;
        }

        void skipToByte() {
            place = (place + 7) & ~7;
        }

        boolean atEnd() {
            return place >= bitEnd;
        }
    }

    /** One set of CODES, kept as how many there are of each length and what they mean in order. */
    private static final class Codes {
        private static final int LONGEST = 15;
        private static final int MOST_CODES = 288;
        private static final int ALL_WORDS = 1 << LONGEST;

        private final int[] counts;
        private final int[] meanings;
        private final int[] places;

        /** How many of the words of LONGEST bits begin with one of the CODES. */
        private int usedWords;

        Codes() {
            counts = new int[LONGEST + 1];
            meanings = new int[MOST_CODES];
            places = new int[LONGEST + 1];
        }

        void make(int[] lengths, int from, int size) {
            Arrays.fill(counts, 0);
            usedWords = 0;
            for (int i = 0; i < size; i++) {
                int length = lengths[from + i];
                counts[length]++;
                usedWords += length == 0 ? 0 : ALL_WORDS >> length;
            }
            places[1] = 0;
            for (int length = 2; length <= LONGEST; length++) {
                places[length] = places[length - 1] + counts[length - 1];
            }
            for (int i = 0; i < size; i++) {
                int length = lengths[from + i];
                if (length != 0) {
                    meanings[places[length]] = i;
                    places[length]++;
                }
            }
        }

        boolean useAllWords() {
            return usedWords == ALL_WORDS;
        }

        boolean areOneOfOneBitOrNone() {
            return usedWords == 0 || usedWords == ALL_WORDS / 2 && counts[1] == 1;
        }

        /** Asks for CODES that are not more than all words: then code is never below first. */
        int read(BitReader in) {
            int code = 0;
            int first = 0;
            int shorter = 0;
            for (int length = 1; length <= LONGEST; length++) {
                code = 2 * code + in.bit();
                int count = counts[length];
                if (code - first < count) {
                    return meanings[shorter + code - first];
                }
                shorter += count;
                first = 2 * (first + count);
            }
            throw new UnsupportedOperationException("no such code");
        }
    }

    /** Reads ZLIB, with BROKEN and too many bytes thrown where the reading meets them. */
    private static final class Unpacker {
        private static final int MOST_LITERALS = 286;
        private static final int MOST_DISTANCES = 30;
        private static final int LENGTH_CODES = 19;
        private static final int[] LENGTH_ORDER = {
            16, 17, 18, 0, 8, 7, 9, 6, 10, 5, 11, 4, 12, 3, 13, 2, 14, 1, 15
        };

        private final BitReader in;
        private final Codes fixedLiterals;
        private final Codes fixedDistances;
        private final Codes literals;
        private final Codes distances;
        private final Codes lengthCodes;
        private final int[] lengths;
        private byte[] out;
        private int written;

        Unpacker() {
            in = new BitReader();
            fixedLiterals = new Codes();
            fixedDistances = new Codes();
            literals = new Codes();
            distances = new Codes();
            lengthCodes = new Codes();
            lengths = new int[MOST_LITERALS + MOST_DISTANCES];
            out = new byte[0];
            makeFixedCodes();
        }

        int read(byte[] tape, int length, byte[] target) {
            in.open(tape, length);
            out = target;
            written = 0;
            readHead();
            readBlocks();
            readTail();
            return written;
        }

        private void makeFixedCodes() {
            int[] row = new int[288];
            for (int i = 0; i < 288; i++) {
                row[i] = i < 144 ? 8 : i < 256 ? 9 : i < 280 ? 7 : 8;
            }
            fixedLiterals.make(row, 0, 288);
            Arrays.fill(row, 5);
            fixedDistances.make(row, 0, 32);
        }

        private void readHead() {
            int c = in.number(8);
            int f = in.number(8);
            boolean kindIsRight = c % 16 == 8 && c / 16 <= 7;
            boolean flagsAreRight = (256 * c + f) % 31 == 0 && f / 32 % 2 == 0;
            if (!kindIsRight || !flagsAreRight) {
                throw new UnsupportedOperationException("no head of ZLIB");
            }
        }

        private void readTail() {
            in.skipToByte();
            int told = 0;
            for (int i = 0; i < 4; i++) {
                told = told << 8 | in.number(8);
            }
            if (told != adlerOf(out, written) || !in.atEnd()) {
                throw new UnsupportedOperationException("no end of ZLIB");
            }
        }

        private void readBlocks() {
            for (int blocks = 0; blocks < MOST_BITS; blocks++) {
                boolean last = in.bit() == 1;
                int kind = in.number(2);
                if (kind == 0) {
                    readStored();
                } else if (kind == 1) {
                    readCoded(fixedLiterals, fixedDistances);
                } else if (kind == 2) {
                    readToldCodes();
                    readCoded(literals, distances);
                } else {
                    throw new UnsupportedOperationException("no such block");
                }
                if (last) {
                    return;
                }
            }
        }

        private void readStored() {
            in.skipToByte();
            int n = in.number(16);
            if (in.number(16) != 65535 - n) {
                throw new UnsupportedOperationException("the two numbers do not fit");
            }
            for (int i = 0; i < n; i++) {
                put(in.number(8));
            }
        }

        private void readToldCodes() {
            int literalCount = in.number(5) + 257;
            int distanceCount = in.number(5) + 1;
            int lengthCount = in.number(4) + 4;
            if (literalCount > MOST_LITERALS || distanceCount > MOST_DISTANCES) {
                throw new UnsupportedOperationException("too many codes");
            }
            readLengthCodes(lengthCount);
            readLengths(literalCount + distanceCount);
            literals.make(lengths, 0, literalCount);
            distances.make(lengths, literalCount, distanceCount);
            if (lengths[BLOCK_END] == 0 || !literals.useAllWords()) {
                throw new UnsupportedOperationException("wrong codes for literals");
            }
            if (!distances.useAllWords() && !distances.areOneOfOneBitOrNone()) {
                throw new UnsupportedOperationException("wrong codes for distances");
            }
        }

        private void readLengthCodes(int told) {
            Arrays.fill(lengths, 0);
            for (int i = 0; i < told; i++) {
                lengths[LENGTH_ORDER[i]] = in.number(3);
            }
            lengthCodes.make(lengths, 0, LENGTH_CODES);
            if (!lengthCodes.useAllWords()) {
                throw new UnsupportedOperationException("wrong codes for lengths");
            }
        }

        /** Both rows are read as one, since a run may begin in the first and end in the second. */
        private void readLengths(int total) {
            int have = 0;
            for (int symbols = 0; symbols < total && have < total; symbols++) {
                int symbol = lengthCodes.read(in);
                if (symbol < 16) {
                    lengths[have] = symbol;
                    have++;
                } else {
                    have = readRun(symbol, have, total);
                }
            }
        }

        private int readRun(int symbol, int have, int total) {
            if (symbol == 16 && have == 0) {
                throw new UnsupportedOperationException("no length before");
            }
            int value = 0;
            int times;
            if (symbol == 16) {
                value = lengths[have - 1];
                times = 3 + in.number(2);
            } else if (symbol == 17) {
                times = 3 + in.number(3);
            } else {
                times = 11 + in.number(7);
            }
            if (times > total - have) {
                throw new UnsupportedOperationException("too many lengths");
            }
            for (int i = 0; i < times; i++) {
                lengths[have + i] = value;
            }
            return have + times;
        }

        private void readCoded(Codes forLiterals, Codes forDistances) {
            for (int symbols = 0; symbols < MOST_BITS; symbols++) {
                int symbol = forLiterals.read(in);
                if (symbol == BLOCK_END) {
                    return;
                }
                if (symbol < BLOCK_END) {
                    put(symbol);
                } else {
                    readCopy(symbol - FIRST_LENGTH, forDistances);
                }
            }
        }

        private void readCopy(int kind, Codes forDistances) {
            if (kind >= LENGTH_BASES.length) {
                throw new UnsupportedOperationException("no such length");
            }
            int length = LENGTH_BASES[kind] + in.number(LENGTH_BITS[kind]);
            int far = forDistances.read(in);
            if (far >= DISTANCE_BASES.length) {
                throw new UnsupportedOperationException("no such distance");
            }
            int distance = DISTANCE_BASES[far] + in.number(DISTANCE_BITS[far]);
            if (distance > written) {
                throw new UnsupportedOperationException("before the first byte");
            }
            for (int i = 0; i < length; i++) {
                put(out[written - distance]);
            }
        }

        private void put(int value) {
            if (written >= LIMIT) {
                throw new IndexOutOfBoundsException("the result would be too long");
            }
            out[written] = (byte) value;
            written++;
        }
    }

    /** Writes ZLIB as one fixed block, and finds copies by chains of places that begin alike. */
    private static final class Packer {
        private static final int SHORTEST_COPY = 3;
        private static final int LONGEST_COPY = 258;
        private static final int WINDOW = 4096;
        private static final int CHAINS = 4096;
        private static final int NONE = -1;

        /** The newest place of each chain, and the next older one of each place in the window. */
        private final int[] newest;
        private final int[] older;

        private byte[] in;
        private int inLength;
        private byte[] out;
        private int written;
        private int heldBits;
        private int heldCount;
        private int copyLength;
        private int copyDistance;

        Packer() {
            newest = new int[CHAINS];
            older = new int[WINDOW];
            in = new byte[0];
            out = new byte[0];
        }

        int write(byte[] tape, int length, byte[] target) {
            open(tape, length, target);
            putByte(120);
            putByte(1);
            putNumber(1, 1);
            putNumber(1, 2);
            writeTape();
            putLiteral(BLOCK_END);
            putLastBits();
            putAdler(adlerOf(tape, length));
            return written;
        }

        private void open(byte[] tape, int length, byte[] target) {
            Arrays.fill(newest, NONE);
            in = tape;
            inLength = length;
            out = target;
            written = 0;
            heldBits = 0;
            heldCount = 0;
        }

        private void writeTape() {
            int step;
            for (int place = 0; place < inLength; place += step) {
                findCopy(place);
                step = Math.max(1, copyLength);
                if (copyLength == 0) {
                    putLiteral(in[place] & 255);
                } else {
                    putCopy();
                }
                for (int i = 0; i < step; i++) {
                    remember(place + i);
                }
            }
        }

        /** Goes from the nearest place to the farthest, so that only a longer copy is better. */
        private void findCopy(int place) {
            copyLength = 0;
            int most = Math.min(LONGEST_COPY, inLength - place);
            if (most < SHORTEST_COPY) {
                return;
            }
            int best = SHORTEST_COPY - 1;
            int farthest = Math.max(0, place - WINDOW);
            int from = newest[chainOf(place)];
            for (int tries = 0; tries < WINDOW && from >= farthest && best < most; tries++) {
                // A copy that is longer than the best one has to agree in the byte behind that one.
                if (in[from + best] == in[place + best]) {
                    int length = agreement(from, place, most);
                    if (length > best) {
                        best = length;
                        copyLength = length;
                        copyDistance = place - from;
                    }
                }
                from = older[from % WINDOW];
            }
        }

        private int agreement(int from, int place, int most) {
            int length = 0;
            while (length < most && in[from + length] == in[place + length]) {
                length++;
            }
            return length;
        }

        private void remember(int place) {
            if (inLength - place >= SHORTEST_COPY) {
                int chain = chainOf(place);
                older[place % WINDOW] = newest[chain];
                newest[chain] = place;
            }
        }

        private int chainOf(int place) {
            int first = in[place] & 255;
            int second = in[place + 1] & 255;
            int third = in[place + 2] & 255;
            return (first << 4 ^ second << 2 ^ third) & (CHAINS - 1);
        }

        private void putCopy() {
            int kind = lastNotAbove(LENGTH_BASES, copyLength);
            putLiteral(FIRST_LENGTH + kind);
            putNumber(copyLength - LENGTH_BASES[kind], LENGTH_BITS[kind]);
            int far = lastNotAbove(DISTANCE_BASES, copyDistance);
            putNumber(turned(far, 5), 5);
            putNumber(copyDistance - DISTANCE_BASES[far], DISTANCE_BITS[far]);
        }

        private static int lastNotAbove(int[] bases, int value) {
            int last = 0;
            for (int i = 1; i < bases.length && bases[i] <= value; i++) {
                last = i;
            }
            return last;
        }

        /** What is added makes the symbol's fixed CODE, which stands behind all shorter ones. */
        private void putLiteral(int symbol) {
            if (symbol < 144) {
                putNumber(turned(0x30 + symbol, 8), 8);
            } else if (symbol < 256) {
                putNumber(turned(0x190 + symbol - 144, 9), 9);
            } else if (symbol < 280) {
                putNumber(turned(symbol - 256, 7), 7);
            } else {
                putNumber(turned(0xC0 + symbol - 280, 8), 8);
            }
        }

        /** A CODE goes out with its highest bit first, and numbers with their lowest. */
        private static int turned(int code, int bits) {
            int turned = 0;
            for (int i = 0; i < bits; i++) {
                turned = turned << 1 | code >> i & 1;
            }
            return turned;
        }

        private void putNumber(int number, int bits) {
            heldBits |= number << heldCount;
            heldCount += bits;
            while (heldCount >= 8) {
                putByte(heldBits);
                heldBits >>= 8;
                heldCount -= 8;
            }
        }

        private void putLastBits() {
            if (heldCount > 0) {
                putByte(heldBits);
            }
        }

        private void putAdler(int adler) {
            for (int shift = 24; shift >= 0; shift -= 8) {
                putByte(adler >> shift);
            }
        }

        private void putByte(int value) {
            if (written >= LIMIT) {
                throw new IndexOutOfBoundsException("the result would be too long");
            }
            out[written] = (byte) value;
            written++;
        }
    }
}
