import java.util.Arrays;

/** Promise 5: blocks with told CODES. */
public final class UnpackToldTest {
    private static final byte[] AB = Boxes.bytes('a', 'b', 'a');
    private static final int[] NO_DISTANCE = {0};

    public static void main(String[] args) {
        ordinaryCodes();
        longestCodes();
        howManyAreTold();
        wrongLengthCodes();
        fewLengthCodes();
        runsOfLengths();
        wrongRuns();
        runsAcrossTheRows();
        wrongLiteralCodes();
        distanceCodes();
        wrongDistanceCodes();
        oneDistanceCode();
        codesAreToldAnew();
        Check.finish();
    }

    /** CODES for a, b and the end, with c as a fourth if a length is given for it. */
    private static int[] literals(int a, int b, int end, int c) {
        int[] lengths = new int[257];
        lengths['a'] = a;
        lengths['b'] = b;
        lengths['c'] = c;
        lengths[256] = end;
        return lengths;
    }

    private static byte[] aba(int[] literals, int[] distances) {
        return Bits.zlib().told(true, literals, distances).literal('a').literal('b').literal('a').end(AB);
    }

    private static void ordinaryCodes() {
        Unpacking.good("1 2 2", aba(literals(1, 2, 2, 0), NO_DISTANCE), AB);
        Unpacking.good("2 1 2", aba(literals(2, 1, 2, 0), NO_DISTANCE), AB);
        Unpacking.good("2 2 1", aba(literals(2, 2, 1, 0), NO_DISTANCE), AB);
        Unpacking.good("2 2 2 2", aba(literals(2, 2, 2, 2), NO_DISTANCE), AB);
        Unpacking.good("3 3 1 2", aba(literals(3, 3, 1, 2), NO_DISTANCE), AB);
        Unpacking.good("the end alone with another", Bits.zlib().told(true, literals(1, 0, 1, 0), NO_DISTANCE).end(new byte[0]), new byte[0]);
    }

    private static void longestCodes() {
        int[] literals = new int[286];
        for (int i = 0; i < 14; i++) {
            literals[i] = i + 1;
        }
        literals[256] = 15;
        literals[285] = 15;
        int[] distances = {14, 13, 12, 11, 10, 9, 8, 7, 6, 5, 4, 3, 2, 1, 15, 15};
        Bits bits = Bits.zlib().told(true, literals, distances);
        byte[] content = new byte[14 + 258];
        for (int i = 0; i < 14; i++) {
            bits.literal(13 - i);
            content[i] = (byte) (13 - i);
        }
        for (int i = 14; i < content.length; i++) {
            content[i] = content[i - 1];
        }
        Unpacking.good("codes of 15 bits", bits.copyOf().literal(285).distance(0).end(content), content);
        for (int i = 14; i < content.length; i++) {
            content[i] = content[i - 13];
        }
        Unpacking.good("a distance of 13", bits.copyOf().literal(285).distance(7).number(0, 2).end(content), content);
        Unpacking.broken("a distance of 15 bits, too far back", bits.copyOf().literal(285).distance(15).number(0, 6).end(content));
    }

    private static void howManyAreTold() {
        for (int count : new int[] {257, 258, 285, 286}) {
            int[] literals = Arrays.copyOf(literals(1, 2, 2, 0), count);
            Unpacking.good(count + " literals", aba(literals, NO_DISTANCE), AB);
        }
        for (int count : new int[] {287, 288}) {
            int[] literals = Arrays.copyOf(literals(1, 2, 2, 0), count);
            Unpacking.broken(count + " literals", aba(literals, NO_DISTANCE));
        }
        for (int count : new int[] {1, 2, 29, 30}) {
            Unpacking.good(count + " distances", aba(literals(1, 2, 2, 0), new int[count]), AB);
        }
        for (int count : new int[] {31, 32}) {
            Unpacking.broken(count + " distances", aba(literals(1, 2, 2, 0), new int[count]));
        }
        Unpacking.broken("288 and 32", aba(Arrays.copyOf(literals(1, 2, 2, 0), 288), new int[32]));
    }

    /** The block of aba with these CODES for lengths, of which 0, 1, 2 and perhaps 18 are used. */
    private static byte[] withLengthCodes(int[] lengthCodes) {
        int[] codes = Bits.codesOf(lengthCodes);
        Bits bits = Bits.zlib().toldHead(true, 257, 1, lengthCodes);
        for (int length : literals(1, 2, 2, 0)) {
            bits.code(codes[length], lengthCodes[length]);
        }
        bits.code(codes[0], lengthCodes[0]).codes(literals(1, 2, 2, 0), NO_DISTANCE);
        return bits.literal('a').literal('b').literal('a').end(AB);
    }

    private static void wrongLengthCodes() {
        Unpacking.good("1 2 2", withLengthCodes(new int[] {1, 2, 2}), AB);
        Unpacking.good("2 2 2 and another", withLengthCodes(new int[] {2, 2, 2, 0, 0, 0, 0, 0, 0, 2}), AB);
        Unpacking.good("7 bits", withLengthCodes(new int[] {1, 2, 3, 4, 5, 6, 7, 7}), AB);
        Unpacking.good("7 bits at the end", withLengthCodes(new int[] {7, 7, 6, 0, 5, 0, 4, 0, 3, 0, 2, 0, 0, 0, 0, 1}), AB);
        Unpacking.broken("words left", withLengthCodes(new int[] {2, 2, 2}));
        Unpacking.broken("few words left", withLengthCodes(new int[] {1, 2, 3, 4, 5, 6, 7}));
        Unpacking.broken("too many", withLengthCodes(new int[] {1, 2, 2, 7}));
        Unpacking.broken("far too many", withLengthCodes(new int[] {1, 1, 1}));
        Unpacking.broken("one of one bit", Bits.zlib().toldHead(true, 257, 1, new int[] {0, 1}).bytes(new byte[40]).endWithout(new byte[0]));
        Unpacking.broken("none", Bits.zlib().toldHead(true, 257, 1, new int[0]).number(0, 30).endWithout(new byte[0]));
        Unpacking.broken("none, 4 told", Bits.zlib().number(1, 1).number(2, 2).number(0, 14).number(0, 12).number(0, 30).endWithout(new byte[0]));
    }

    /** Four to nineteen lengths are told, in their order; the others are 0, whatever a block before told. */
    private static void fewLengthCodes() {
        int[] order = {16, 17, 18, 0, 8, 7, 9, 6, 10, 5, 11, 4, 12, 3, 13, 2, 14, 1, 15};
        for (int told = 18; told <= 19; told++) {
            Bits bits = Bits.zlib().told(false, manyShort(), NO_DISTANCE).literal('a').literal(256);
            bits.number(1, 1).number(2, 2).number(0, 5).number(0, 5).number(told - 4, 4);
            int[] lengthCodes = new int[19];
            lengthCodes[0] = 1;
            lengthCodes[1] = 2;
            lengthCodes[2] = 2;
            for (int i = 0; i < told; i++) {
                bits.number(lengthCodes[order[i]], 3);
            }
            int[] codes = Bits.codesOf(lengthCodes);
            for (int length : literals(1, 2, 2, 0)) {
                bits.code(codes[length], lengthCodes[length]);
            }
            bits.code(codes[0], 1).codes(literals(1, 2, 2, 0), NO_DISTANCE).literal('b').literal('a');
            Unpacking.good(told + " told", bits.end(AB), AB);
        }
        fiveLengthCodes();
    }

    /** 32 CODES of 5 bits, 0 .. 18 among them, which could be taken for lengths told to the next block. */
    private static int[] manyShort() {
        int[] literals = new int[257];
        Arrays.fill(literals, 0, 30, 5);
        literals['a'] = 5;
        literals[256] = 5;
        return literals;
    }

    /** 16 17 18 0 8 alone: 257 CODES of 8 bits are one too many, but 256 of them are enough. */
    private static void fiveLengthCodes() {
        Bits bits = Bits.zlib().number(1, 1).number(2, 2).number(0, 5).number(0, 5).number(1, 4);
        bits.number(0, 3).number(0, 3).number(0, 3).number(1, 3).number(1, 3);
        int[] literals = new int[257];
        Arrays.fill(literals, 8);
        literals[200] = 0;
        for (int length : literals) {
            bits.bit(length == 0 ? 0 : 1);
        }
        bits.bit(0).codes(literals, NO_DISTANCE).literal(0).literal(199).literal(201).literal(255);
        byte[] content = Boxes.bytes(0, 199, 201, 255);
        Unpacking.good("5 told", bits.end(content), content);
    }

    /** Every number of times of 16, 17 and 18, each in a row that is right only for that number. */
    private static void runsOfLengths() {
        for (int times = 3; times <= 6; times++) {
            int[] literals = new int[257];
            Arrays.fill(literals, 0, times + 1, 4);
            Arrays.fill(literals, times + 1, 15, 4);
            literals[256] = 4;
            Bits bits = Bits.zlib().toldHead(true, 257, 1, Bits.PLAIN_LENGTH_CODES);
            bits.length(4).length(16).number(times - 3, 2);
            for (int i = times + 1; i < 257; i++) {
                bits.length(literals[i]);
            }
            runDue("16, " + times, bits.length(0), literals);
        }
        for (int times = 3; times <= 10; times++) {
            zerosDue("17, " + times, 17, times, times - 3, 3);
        }
        for (int times = 11; times <= 138; times++) {
            zerosDue("18, " + times, 18, times, times - 11, 7);
        }
        zerosRepeated();
    }

    private static void zerosDue(String what, int symbol, int times, int number, int numberBits) {
        int[] literals = new int[257];
        literals[times] = 1;
        literals[times + 1] = 2;
        literals[256] = 2;
        Bits bits = Bits.zlib().toldHead(true, 257, 1, Bits.PLAIN_LENGTH_CODES);
        bits.length(symbol).number(number, numberBits);
        for (int i = times; i < 257; i++) {
            bits.length(literals[i]);
        }
        Bits told = bits.length(0).codes(literals, NO_DISTANCE);
        byte[] content = Boxes.bytes(times, times + 1, times);
        told.literal(times).literal(times + 1).literal(times);
        Unpacking.good(what, told.end(content), content);
    }

    private static void runDue(String what, Bits bits, int[] literals) {
        bits.codes(literals, NO_DISTANCE);
        byte[] content = new byte[15];
        for (int i = 0; i < 15; i++) {
            bits.literal(i);
            content[i] = (byte) i;
        }
        Unpacking.good(what, bits.end(content), content);
    }

    /** 16 behind zeros repeats a zero, behind a 16 what that one repeated. */
    private static void zerosRepeated() {
        Bits bits = Bits.zlib().toldHead(true, 257, 1, Bits.PLAIN_LENGTH_CODES);
        bits.length(17).number(0, 3).length(16).number(0, 2).length(18).number(0, 7).length(16).number(3, 2);
        int[] literals = new int[257];
        Arrays.fill(literals, 23, 30, 3);
        bits.length(3).length(16).number(0, 2).length(16).number(0, 2);
        literals[256] = 3;
        for (int i = 30; i < 257; i++) {
            bits.length(literals[i]);
        }
        bits.length(0).codes(literals, NO_DISTANCE);
        byte[] content = Boxes.bytes(23, 29, 26);
        Unpacking.good("16 behind 17, 18 and 16", bits.literal(23).literal(29).literal(26).end(content), content);
    }

    private static void wrongRuns() {
        Bits first = Bits.zlib().toldHead(true, 257, 1, Bits.PLAIN_LENGTH_CODES).length(16).number(0, 2);
        for (int i = 3; i < 258; i++) {
            first.length(i == 'a' ? 1 : i == 'b' || i == 256 ? 2 : 0);
        }
        first.codes(literals(1, 2, 2, 0), NO_DISTANCE).literal('a').literal('b').literal('a');
        Unpacking.broken("16 first of all", first.end(AB));
        for (int symbol = 16; symbol <= 18; symbol++) {
            int least = symbol == 18 ? 11 : 3;
            int bits = symbol == 16 ? 2 : symbol == 17 ? 3 : 7;
            for (int more = 0; more < 2; more++) {
                byte[] tape = endingInRun(symbol, least, bits, more);
                String what = "a run of " + symbol + " to the end and " + more;
                if (more == 0) {
                    Unpacking.good(what, tape, AB);
                } else {
                    Unpacking.broken(what, tape);
                }
            }
        }
    }

    /** As many lengths as can be told, ending in a run that is as long as it may be, or longer. */
    private static byte[] endingInRun(int symbol, int least, int bits, int more) {
        Bits told = Bits.zlib().toldHead(true, 286, 30, Bits.PLAIN_LENGTH_CODES);
        for (int length : literals(1, 2, 2, 0)) {
            told.length(length);
        }
        for (int i = 257; i < 286 + 30 - least; i++) {
            told.length(0);
        }
        told.length(symbol).number(more, bits);
        return told.codes(literals(1, 2, 2, 0), NO_DISTANCE).literal('a').literal('b').literal('a').end(AB);
    }

    private static void runsAcrossTheRows() {
        int[] literals = literals(2, 2, 2, 2);
        Bits bits = Bits.zlib().toldHead(true, 257, 4, Bits.PLAIN_LENGTH_CODES);
        for (int length : literals) {
            bits.length(length);
        }
        bits.length(16).number(1, 2).codes(literals, new int[] {2, 2, 2, 2});
        Unpacking.good("16 from the literals into the distances", bits.literal('a').literal('b').literal('a').end(AB), AB);
        int[] many = new int[260];
        many['a'] = 1;
        many['b'] = 2;
        many[256] = 2;
        Bits zeros = Bits.zlib().toldHead(true, 260, 30, Bits.PLAIN_LENGTH_CODES);
        for (int i = 0; i < 257; i++) {
            zeros.length(many[i]);
        }
        zeros.length(18).number(22, 7).codes(many, NO_DISTANCE);
        Unpacking.good("18 from the literals to the end", zeros.literal('a').literal('b').literal('a').end(AB), AB);
    }

    private static void wrongLiteralCodes() {
        Unpacking.broken("words left", aba(literals(2, 2, 2, 0), NO_DISTANCE));
        Unpacking.broken("one word of 15 bits left", aba(literals(1, 2, 3, 0), NO_DISTANCE));
        Unpacking.broken("too many", aba(literals(1, 2, 2, 15), NO_DISTANCE));
        Unpacking.broken("far too many", aba(literals(1, 1, 1, 1), NO_DISTANCE));
        Unpacking.broken("no end", aba(literals(1, 2, 0, 2), NO_DISTANCE));
        Unpacking.broken("no end, but symbols behind it", noEnd());
        Unpacking.broken("the end alone, of one bit", Bits.zlib().told(true, literals(0, 0, 1, 0), NO_DISTANCE).end(new byte[0]));
        Unpacking.broken("the end alone, of two bits", Bits.zlib().told(true, literals(0, 0, 2, 0), NO_DISTANCE).end(new byte[0]));
        Unpacking.broken("none", Bits.zlib().told(true, new int[257], NO_DISTANCE).number(0, 30).endWithout(new byte[0]));
        int[] chain = new int[257];
        for (int i = 0; i < 15; i++) {
            chain[i] = i + 1;
        }
        chain[256] = 15;
        Unpacking.good("a chain of all lengths", Bits.zlib().told(true, chain, NO_DISTANCE).literal(14).literal(0).end(Boxes.bytes(14, 0)), Boxes.bytes(14, 0));
        chain[14] = 0;
        Unpacking.broken("one word short", Bits.zlib().told(true, chain, NO_DISTANCE).literal(0).end(Boxes.bytes(0)));
        chain[14] = 15;
        chain[20] = 15;
        Unpacking.broken("one word too many", Bits.zlib().told(true, chain, NO_DISTANCE).literal(0).end(Boxes.bytes(0)));
    }

    private static byte[] noEnd() {
        int[] literals = new int[258];
        literals['a'] = 1;
        literals['b'] = 2;
        literals[257] = 2;
        return Bits.zlib().told(true, literals, new int[] {1}).literal('a').literal('b').literal('a').endWithout(AB);
    }

    /** CODES for a, the end and the lengths 3 and 258. */
    private static int[] withCopies() {
        int[] literals = new int[286];
        literals['a'] = 2;
        literals[256] = 2;
        literals[257] = 2;
        literals[285] = 2;
        return literals;
    }

    private static void distanceCodes() {
        byte[] content = Boxes.filled(4 + 3 + 258, 'a');
        int[][] rows = {{1, 1}, {1, 2, 2}, {2, 2, 2, 2}, {0, 0, 1, 1}, {3, 3, 2, 1}};
        for (int[] row : rows) {
            for (int symbol = 0; symbol < row.length; symbol++) {
                if (row[symbol] > 0) {
                    Bits bits = Bits.zlib().told(true, withCopies(), row).literal('a').literal('a').literal('a').literal('a');
                    bits.literal(257).distance(symbol).literal(285).distance(symbol);
                    Unpacking.good("distances " + Arrays.toString(row) + ", " + symbol, bits.end(content), content);
                }
            }
        }
        int[] all = new int[30];
        Arrays.fill(all, 5);
        all[0] = 4;
        all[29] = 4;
        Unpacking.good("30 distances", Bits.zlib().told(true, withCopies(), all).literal('a').literal(257).distance(0)
                .end(Boxes.filled(4, 'a')), Boxes.filled(4, 'a'));
        Unpacking.broken("distance symbol 29 is too far back", Bits.zlib().told(true, withCopies(), all).literal('a').literal(257)
                .distance(29).number(0, 13).end(Boxes.filled(4, 'a')));
    }

    private static void wrongDistanceCodes() {
        int[][] rows = {{2}, {2, 2}, {2, 2, 2}, {1, 2}, {0, 2}, {3}, {15}, {15, 15}, {1, 1, 1}, {1, 2, 2, 15}, {1, 1, 15},
            {2, 2, 2, 2, 2}, {1, 15}, {0, 0, 7}};
        for (int[] row : rows) {
            Bits bits = Bits.zlib().told(true, withCopies(), row).literal('a');
            Unpacking.broken("distances " + Arrays.toString(row), bits.end(Boxes.bytes('a')));
        }
    }

    private static void oneDistanceCode() {
        byte[] four = Boxes.filled(4, 'a');
        Bits none = Bits.zlib().told(true, withCopies(), new int[30]).literal('a');
        Unpacking.good("no distance, no copy", none.copyOf().end(Boxes.bytes('a')), Boxes.bytes('a'));
        Unpacking.broken("no distance, but a copy", none.copyOf().literal(257).bit(0).end(four));
        Unpacking.broken("no distance, but a copy and many bits", none.copyOf().literal(257).number(0, 15).end(four));
        for (int symbol = 0; symbol < 30; symbol++) {
            int[] one = new int[30];
            one[symbol] = 1;
            Bits bits = Bits.zlib().told(true, withCopies(), one).literal('a');
            Unpacking.good("one distance, no copy", bits.copyOf().end(Boxes.bytes('a')), Boxes.bytes('a'));
            Unpacking.broken("one distance, the other bit", bits.copyOf().literal(257).bit(1).end(four));
            Unpacking.broken("one distance, the other bit and many", bits.copyOf().literal(257).number(32767, 15).end(four));
            byte[] copied = bits.copyOf().literal(257).bit(0).number(0, Math.max(0, symbol / 2 - 1)).end(four);
            if (symbol == 0) {
                Unpacking.good("one distance, a copy", copied, four);
            } else {
                Unpacking.broken("one distance, too far back", copied);
            }
        }
    }

    private static void codesAreToldAnew() {
        byte[] content = Boxes.joined(AB, AB, AB, Boxes.filled(3, 'a'));
        Bits bits = Bits.zlib().told(false, Arrays.copyOf(literals(1, 2, 2, 0), 286), new int[30]);
        bits.literal('a').literal('b').literal('a').literal(256);
        bits.told(false, literals(3, 1, 2, 3), new int[1]).literal('a').literal('b').literal('a').literal(256);
        bits.fixed(false).literal('a').literal('b').literal('a').literal(256);
        bits.told(true, withCopies(), new int[] {1, 1}).literal(257).distance(0);
        Unpacking.good("three tellings and a fixed block", bits.end(content), content);
    }
}
