import java.util.Arrays;

/** Promise 5: fixed blocks, lengths and distances. */
public final class UnpackFixedTest {
    private static final int[] FIRST_LENGTHS = {
        3, 4, 5, 6, 7, 8, 9, 10, 11, 13, 15, 17, 19, 23, 27, 31, 35, 43, 51, 59, 67, 83, 99, 115, 131, 163, 195, 227
    };

    public static void main(String[] args) {
        everyLiteral();
        everyLength();
        everyDistance();
        overlaps();
        wrongSymbols();
        tooFarBack();
        theEdgesOfTheFixedCodes();
        theEdgesOfLengths();
        asFarBackAsTheFirst();
        Check.finish();
    }

    private static void everyLiteral() {
        Bits bits = Bits.zlib().fixed(true);
        byte[] content = new byte[256];
        for (int i = 0; i < 256; i++) {
            bits.literal(i);
            content[i] = (byte) i;
        }
        Unpacking.good("all literals", bits.end(content), content);
    }

    private static void everyLength() {
        for (int i = 0; i < FIRST_LENGTHS.length; i++) {
            int more = i < 8 ? 0 : i / 4 - 1;
            for (int extra = 0; extra < 1 << more; extra++) {
                int length = FIRST_LENGTHS[i] + extra;
                lengthDue(length, Bits.zlib().fixed(true).literal(65).copy(257 + i, extra, more, 0));
            }
        }
        lengthDue(258, Bits.zlib().fixed(true).literal(65).longCopy(1));
    }

    private static void lengthDue(int length, Bits bits) {
        byte[] content = Boxes.filled(length + 1, 65);
        Unpacking.good("length " + length, bits.end(content), content);
    }

    /** Each distance's lowest, highest and one between, in a row where every place looks different. */
    private static void everyDistance() {
        byte[] head = new byte[9000];
        for (int i = 0; i < head.length; i++) {
            head[i] = (byte) (i * i / 7 + i / 256);
        }
        for (int symbol = 0; symbol < 26; symbol++) {
            int more = Math.max(0, symbol / 2 - 1);
            int first = symbol < 4 ? symbol + 1 : (2 + symbol % 2 << more) + 1;
            for (int extra : new int[] {0, (1 << more) / 3, (1 << more) - 1}) {
                int distance = first + extra;
                if (distance <= head.length) {
                    distanceDue(head, distance, symbol, extra, more);
                }
            }
        }
        farDistances();
    }

    private static void distanceDue(byte[] head, int distance, int symbol, int extra, int more) {
        Bits bits = Bits.zlib().stored(false, head).fixed(true).copy(264, 0, 0, symbol).number(extra, more);
        byte[] content = copied(head, distance, 10);
        Unpacking.good("distance " + distance, bits.end(content), content);
    }

    /** So far back that the row before can't be fed byte by byte: it is made of long copies. */
    private static void farDistances() {
        byte[] head = new byte[16000];
        head[0] = 9;
        Bits start = Bits.zlib().fixed(false).literal(9);
        int have = 1;
        while (have + 259 <= head.length) {
            start.longCopy(1).literal(have % 144);
            Arrays.fill(head, have, have + 258, head[have - 1]);
            head[have + 258] = (byte) (have % 144);
            have += 259;
        }
        start.literal(256).fixed(true);
        byte[] content = Arrays.copyOf(head, have);
        for (int distance : new int[] {8193, 9000, 12288, 12289, 15000, have - 1, have}) {
            int symbol = distance < 12289 ? 26 : 27;
            int first = symbol == 26 ? 8193 : 12289;
            Bits bits = start.copyOf().copy(264, 0, 0, symbol).number(distance - first, 12);
            byte[] all = copied(content, distance, 10);
            Unpacking.good("distance " + distance, bits.end(all), all);
        }
        Bits far = start.copyOf().copy(264, 0, 0, 27).number(have + 1 - 12289, 12);
        Unpacking.broken("distance " + (have + 1) + " of " + have, far.end(content));
        Check.isTrue("the row is long", have > 15000);
    }

    private static byte[] copied(byte[] head, int distance, int length) {
        byte[] content = Arrays.copyOf(head, head.length + length);
        for (int i = head.length; i < content.length; i++) {
            content[i] = content[i - distance];
        }
        return content;
    }

    private static void overlaps() {
        byte[] head = Boxes.bytes(1, 2, 3, 4);
        for (int distance = 1; distance <= 4; distance++) {
            byte[] content = copied(head, distance, 258);
            Bits bits = Bits.zlib().fixed(true).literal(1).literal(2).literal(3).literal(4).longCopy(distance);
            Unpacking.good("258 from " + distance, bits.end(content), content);
        }
    }

    private static void wrongSymbols() {
        byte[] content = Boxes.filled(259, 65);
        for (int symbol : new int[] {286, 287}) {
            Bits bits = Bits.zlib().fixed(true).literal(65).literal(symbol).distance(0);
            Unpacking.broken("length symbol " + symbol, bits.end(content));
            Unpacking.broken("length symbol " + symbol + " alone",
                    Bits.zlib().fixed(true).literal(65).literal(symbol).end(Boxes.bytes(65)));
        }
        for (int symbol : new int[] {30, 31}) {
            Unpacking.broken("distance symbol " + symbol,
                    Bits.zlib().fixed(true).literal(65).literal(285).distance(symbol).end(content));
            Unpacking.broken("distance symbol " + symbol + " and 14 bits",
                    Bits.zlib().fixed(true).literal(65).literal(285).distance(symbol).number(0, 14).end(content));
        }
    }

    private static void tooFarBack() {
        Unpacking.broken("before the first byte of nothing", Bits.zlib().fixed(true).longCopy(1).end(new byte[258]));
        for (int have = 1; have <= 3; have++) {
            Bits bits = Bits.zlib().fixed(true);
            for (int i = 0; i < have; i++) {
                bits.literal(0);
            }
            byte[] content = new byte[have + 258];
            Unpacking.broken((have + 1) + " back of " + have, bits.copyOf().longCopy(have + 1).end(content));
            Unpacking.good(have + " back of " + have, bits.copyOf().longCopy(have).end(content), content);
        }
    }

    /** The first and the last CODE of each length, as bits written out. */
    private static void theEdgesOfTheFixedCodes() {
        int[][] literals = {{0, 0b00110000, 8}, {143, 0b10111111, 8}, {144, 0b110010000, 9}, {255, 0b111111111, 9}};
        for (int[] row : literals) {
            byte[] content = Boxes.bytes(row[0]);
            Unpacking.good("literal " + row[0], Bits.zlib().fixed(true).code(row[1], row[2]).code(0, 7).endWithout(content), content);
        }
        Unpacking.good("256", Bits.zlib().fixed(true).code(0b0000000, 7).endWithout(new byte[0]), new byte[0]);
        int[][] lengths = {{257, 0b0000001, 7, 3, 0}, {279, 0b0010111, 7, 99, 4}, {280, 0b11000000, 8, 115, 4},
            {284, 0b11000100, 8, 227, 5}, {285, 0b11000101, 8, 258, 0}};
        for (int[] row : lengths) {
            Bits bits = Bits.zlib().fixed(true).literal(65).code(row[1], row[2]).number(0, row[4]).code(0, 5);
            byte[] content = Boxes.filled(1 + row[3], 65);
            Unpacking.good("symbol " + row[0], bits.code(0, 7).endWithout(content), content);
        }
        for (int code : new int[] {0b11000110, 0b11000111}) {
            for (int length : new int[] {0, 3, 258}) {
                Bits bits = Bits.zlib().fixed(true).literal(65).code(code, 8).code(0, 5).code(0, 7);
                Unpacking.broken("286 or 287", bits.endWithout(Boxes.filled(1 + length, 65)));
            }
        }
        for (int code = 28; code < 32; code++) {
            Bits bits = Bits.zlib().fixed(true).literal(65).literal(257).code(code, 5).number(0, 13).code(0, 7);
            Unpacking.broken("distance symbol " + code, bits.endWithout(Boxes.filled(4, 65)));
        }
    }

    /** 258 in both ways, and the lengths beside those that have another symbol. */
    private static void theEdgesOfLengths() {
        lengthDue(10, Bits.zlib().fixed(true).literal(65).copy(264, 0, 0, 0));
        lengthDue(11, Bits.zlib().fixed(true).literal(65).copy(265, 0, 1, 0));
        lengthDue(12, Bits.zlib().fixed(true).literal(65).copy(265, 1, 1, 0));
        lengthDue(13, Bits.zlib().fixed(true).literal(65).copy(266, 0, 1, 0));
        lengthDue(257, Bits.zlib().fixed(true).literal(65).copy(284, 30, 5, 0));
        lengthDue(258, Bits.zlib().fixed(true).literal(65).copy(284, 31, 5, 0));
        lengthDue(258, Bits.zlib().fixed(true).literal(65).copy(285, 0, 0, 0));
        lengthDue(258 + 258 + 3, Bits.zlib().fixed(true).literal(65).longCopy(1).longCopy(1).copy(257, 0, 0, 0));
    }

    /** "not before the first": the least and the most of each symbol, with as many bytes before, and one less. */
    private static void asFarBackAsTheFirst() {
        for (int symbol = 0; symbol < 28; symbol++) {
            int more = Math.max(0, symbol / 2 - 1);
            int least = symbol < 4 ? symbol + 1 : (2 + symbol % 2 << more) + 1;
            for (int extra : new int[] {0, (1 << more) - 1}) {
                int distance = least + extra;
                if (distance + 3 <= Boxes.LIMIT) {
                    byte[] tape = row(distance).copy(257, 0, 0, symbol).number(extra, more).end(Boxes.filled(distance + 3, 65));
                    Unpacking.good(distance + " back of as many", tape, Boxes.filled(distance + 3, 65));
                }
                byte[] tape = row(distance - 1).copy(257, 0, 0, symbol).number(extra, more).end(Boxes.filled(distance + 2, 65));
                Unpacking.broken(distance + " back of one less", tape);
            }
        }
        for (int symbol = 28; symbol < 30; symbol++) {
            for (int extra : new int[] {0, 8191}) {
                byte[] tape = row(16381).copy(257, 0, 0, symbol).number(extra, 13).end(Boxes.filled(16384, 65));
                Unpacking.broken("symbol " + symbol + " and " + extra + ", farther than a result is long", tape);
            }
        }
    }

    private static Bits row(int length) {
        return Bits.zlib().fixed(true).run(65, length);
    }
}
