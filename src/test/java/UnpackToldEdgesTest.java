import java.util.Arrays;

/** Promise 5: the least and the most of all that a block with told CODES tells. */
public final class UnpackToldEdgesTest {
    private static final int[] ORDER = {16, 17, 18, 0, 8, 7, 9, 6, 10, 5, 11, 4, 12, 3, 13, 2, 14, 1, 15};
    private static final int[] NO_DISTANCE = {0};

    public static void main(String[] args) {
        everyCountOfLiterals();
        everyCountOfDistances();
        everyCountOfLengths();
        fourLengthsAreTooFew();
        theLengthBeforeIsThere();
        runsEndWithTheRows();
        everyLengthOfCodes();
        codesRise();
        theEndHasACode();
        oneWordMoreOrLess();
        oneDistanceOfOneBit();
        Check.finish();
    }

    private static int[] endAnd(int symbol, int count) {
        int[] literals = new int[count];
        literals[symbol] = 1;
        literals[256] = 1;
        return literals;
    }

    private static void due(String what, boolean right, byte[] tape, byte[] content) {
        if (right) {
            Unpacking.good(what, tape, content);
        } else {
            Unpacking.broken(what, tape);
        }
    }

    /** "numbers of 5 bits and 257, at most 286": 286 are still right, 287 and 288 are not. */
    private static void everyCountOfLiterals() {
        byte[] content = Boxes.bytes(7, 7);
        for (int count = 257; count <= 288; count++) {
            byte[] tape = Bits.zlib().told(true, endAnd(7, count), NO_DISTANCE).literal(7).literal(7).end(content);
            due(count + " literals", count <= 286, tape, content);
        }
    }

    /** "5 and 1, at most 30": 30 are still right, 31 and 32 are not. */
    private static void everyCountOfDistances() {
        byte[] content = Boxes.bytes(7, 7);
        for (int count = 1; count <= 32; count++) {
            for (int used = 0; used < 3 && used <= count; used++) {
                int[] distances = new int[count];
                Arrays.fill(distances, 0, used, 1);
                byte[] tape = Bits.zlib().told(true, endAnd(7, 257), distances).literal(7).literal(7).end(content);
                due(count + " distances, CODES for " + used, count <= 30, tape, content);
            }
        }
    }

    /** Lengths that use up all words, the longest of them being this one: 8 bits most often, or all alike. */
    private static int[] literalsWithLongest(int longest) {
        int[] literals = new int[286];
        if (longest < 8) {
            Arrays.fill(literals, 0, (1 << longest) - 1, longest);
            literals[256] = longest;
            return literals;
        }
        Arrays.fill(literals, 0, 255, 8);
        int last = 256;
        for (int length = 9; length <= longest; length++) {
            literals[last] = length;
            last++;
        }
        literals[last] = longest;
        return literals;
    }

    /** As many lengths alike as can be for so many CODES, all words used up. */
    private static int[] evenLengths(int count) {
        int bits = 32 - Integer.numberOfLeadingZeros(count - 1);
        int shorter = (1 << bits) - count;
        int[] lengths = new int[count];
        for (int i = 0; i < count; i++) {
            lengths[i] = i < shorter ? bits - 1 : bits;
        }
        return lengths;
    }

    /** "4 and 4: how many lengths": 5 .. 19 are told, the last of them being needed; without it all is BROKEN. */
    private static void everyCountOfLengths() {
        for (int told = 5; told <= 19; told++) {
            int[] literals = literalsWithLongest(ORDER[told - 1]);
            int[] lengthCodes = lengthCodesFor(literals);
            byte[] content = Boxes.bytes(0);
            byte[] tape = toldInOrder(told, lengthCodes, literals).literal(0).end(content);
            Unpacking.good(told + " lengths told", tape, content);
            byte[] fewer = toldInOrder(told - 1, lengthCodes, literals).literal(0).end(content);
            Unpacking.broken("the last of " + told + " lengths not told", fewer);
        }
    }

    private static int[] lengthCodesFor(int[] literals) {
        int[] used = Arrays.stream(literals).distinct().toArray();
        int[] even = evenLengths(used.length);
        int[] lengthCodes = new int[19];
        for (int i = 0; i < used.length; i++) {
            lengthCodes[used[i]] = even[i];
        }
        return lengthCodes;
    }

    private static Bits toldInOrder(int told, int[] lengthCodes, int[] literals) {
        Bits bits = Bits.zlib().number(1, 1).number(2, 2).number(literals.length - 257, 5).number(0, 5).number(told - 4, 4);
        for (int i = 0; i < told; i++) {
            bits.number(lengthCodes[ORDER[i]], 3);
        }
        int[] codes = Bits.codesOf(lengthCodes);
        for (int length : literals) {
            bits.code(codes[length], lengthCodes[length]);
        }
        return bits.code(codes[0], lengthCodes[0]).codes(literals, NO_DISTANCE);
    }

    /** With 16, 17, 18 and 0 alone all lengths are zeros, so that 256 has no CODE. */
    private static void fourLengthsAreTooFew() {
        Bits bits = Bits.zlib().number(1, 1).number(2, 2).number(0, 5).number(0, 5).number(0, 4);
        bits.number(0, 3).number(0, 3).number(1, 3).number(1, 3);
        bits.code(1, 1).number(127, 7).code(1, 1).number(258 - 138 - 11, 7);
        Unpacking.broken("4 lengths told", bits.number(0, 30).endWithout(new byte[0]));
    }

    /** "16 the one before (there is one)": not as the first, but as the second. */
    private static void theLengthBeforeIsThere() {
        Bits first = Bits.zlib().toldHead(true, 257, 1, Bits.PLAIN_LENGTH_CODES).length(16).number(0, 2);
        Unpacking.broken("16 first", tenBehind(first, 3));
        Bits second = Bits.zlib().toldHead(true, 257, 1, Bits.PLAIN_LENGTH_CODES).length(0).length(16).number(0, 2);
        Unpacking.good("16 second", tenBehind(second, 4), Boxes.bytes(10));
    }

    /** The lengths from this one on, each by itself, and a block of one byte 10. */
    private static byte[] tenBehind(Bits bits, int from) {
        int[] literals = endAnd(10, 257);
        for (int i = from; i < 257; i++) {
            bits.length(literals[i]);
        }
        return bits.length(0).codes(literals, NO_DISTANCE).literal(10).end(Boxes.bytes(10));
    }

    /** "no more than there are": a run of each kind that ends with the last length, and one that goes on. */
    private static void runsEndWithTheRows() {
        int[][] runs = {{16, 3, 6, 2}, {17, 3, 10, 3}, {18, 11, 138, 7}};
        int mostRoom = 286 - 258 + 30;
        for (int[] run : runs) {
            for (int times = run[1]; times <= run[2]; times++) {
                if (times <= mostRoom) {
                    Unpacking.good(run[0] + " for " + times + ", room for all", runToTheEnd(run, times, times), Boxes.bytes(7));
                }
                int less = Math.min(mostRoom, times - 1);
                Unpacking.broken(run[0] + " for " + times + ", room for " + less, runToTheEnd(run, times, less));
            }
        }
    }

    /** The run stands behind 256's length and a zero, and has room for so many lengths. */
    private static byte[] runToTheEnd(int[] run, int times, int room) {
        int literalCount = Math.min(286, 257 + room);
        int distanceCount = 258 + room - literalCount;
        int[] literals = endAnd(7, literalCount);
        Bits bits = Bits.zlib().toldHead(true, literalCount, distanceCount, Bits.PLAIN_LENGTH_CODES);
        for (int i = 0; i < 257; i++) {
            bits.length(literals[i]);
        }
        bits.length(0).length(run[0]).number(times - run[1], run[3]);
        return bits.codes(literals, new int[distanceCount]).literal(7).end(Boxes.bytes(7));
    }

    /** "0 .. 15 a length": CODES of each length, and the longest of 15 bits. */
    private static void everyLengthOfCodes() {
        for (int longest = 1; longest <= 15; longest++) {
            int[] literals = new int[257];
            for (int i = 0; i < longest; i++) {
                literals[i] = i + 1;
            }
            literals[256] = longest;
            Bits bits = Bits.zlib().told(true, literals, NO_DISTANCE);
            byte[] content = new byte[longest];
            for (int i = 0; i < longest; i++) {
                content[i] = (byte) (longest - 1 - i);
                bits.literal(longest - 1 - i);
            }
            Unpacking.good("CODES of 1 .. " + longest + " bits", bits.end(content), content);
        }
    }

    /** "of the same length they rise with what they mean, and behind each shorter one", as bits written out. */
    private static void codesRise() {
        int[] literals = new int[257];
        literals[3] = 3;
        literals[1] = 2;
        literals[200] = 3;
        literals[256] = 1;
        byte[] content = Boxes.bytes(1, 3, 200);
        Bits bits = Bits.zlib().told(true, literals, NO_DISTANCE).code(0b10, 2).code(0b110, 3).code(0b111, 3).code(0, 1);
        Unpacking.good("0, 10, 110, 111", bits.endWithout(content), content);
        Bits turned = Bits.zlib().told(true, literals, NO_DISTANCE).code(0b01, 2).code(0b011, 3).code(0b111, 3).code(0, 1);
        Unpacking.broken("the lowest bit first", turned.endWithout(content));
    }

    /** "256 has a CODE": all words are used up without it, and that is not enough. */
    private static void theEndHasACode() {
        for (int symbol : new int[] {0, 255, 257, 285}) {
            int[] literals = endAnd(symbol, 286);
            literals[1] = 1;
            literals[256] = 0;
            byte[] tape = Bits.zlib().told(true, literals, new int[] {1}).literal(1).number(0, 20).endWithout(Boxes.bytes(1));
            Unpacking.broken("1 and " + symbol + " have CODES, 256 has none", tape);
        }
        byte[] tape = Bits.zlib().told(true, endAnd(1, 286), new int[] {1}).literal(1).end(Boxes.bytes(1));
        Unpacking.good("1 and 256 have CODES", tape, Boxes.bytes(1));
    }

    /** "all words of bits are used up": for each longest length one CODE less, one more, and one that is a bit longer. */
    private static void oneWordMoreOrLess() {
        for (int longest = 2; longest <= 15; longest++) {
            int[] right = literalsWithLongest(longest);
            Unpacking.good("all words of " + longest + " bits", zeroIn(right), Boxes.bytes(0));
            int spare = lastOf(right);
            int[] less = right.clone();
            less[spare] = 0;
            Unpacking.broken("one CODE of " + longest + " bits less", zeroIn(less));
            int[] more = right.clone();
            more[255] = longest;
            Unpacking.broken("one CODE of " + longest + " bits more", zeroIn(more));
            if (longest < 15) {
                int[] longer = right.clone();
                longer[spare] = longest + 1;
                Unpacking.broken("one CODE a bit longer than " + longest, zeroIn(longer));
            }
        }
    }

    /** One byte 0 in these CODES. */
    private static byte[] zeroIn(int[] literals) {
        return Bits.zlib().told(true, literals, NO_DISTANCE).literal(0).end(Boxes.bytes(0));
    }

    /** The last symbol of the longest length that is neither the end nor the first. */
    private static int lastOf(int[] literals) {
        int longest = Arrays.stream(literals).max().getAsInt();
        int last = 0;
        for (int i = 1; i < literals.length; i++) {
            last = literals[i] == longest && i != 256 ? i : last;
        }
        return last;
    }

    /** "distances may have one CODE of one bit, or none": one CODE of 2 .. 15 bits leaves too much over. */
    private static void oneDistanceOfOneBit() {
        byte[] content = Boxes.filled(4, 7);
        int[] literals = new int[258];
        literals[7] = 2;
        literals[256] = 2;
        literals[257] = 1;
        for (int length = 0; length <= 15; length++) {
            for (int count : new int[] {1, 30}) {
                int[] distances = new int[count];
                distances[0] = length;
                byte[] without = Bits.zlib().told(true, literals, distances).literal(7).end(Boxes.bytes(7));
                due("one distance of " + length + " bits, no copy", length <= 1, without, Boxes.bytes(7));
                byte[] with = Bits.zlib().told(true, literals, distances).literal(7).literal(257).code(0, length).end(content);
                due("one distance of " + length + " bits and a copy", length == 1, with, content);
            }
        }
    }
}
