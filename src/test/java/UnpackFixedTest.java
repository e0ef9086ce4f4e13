import java.util.Arrays;

/** Promise 5: fixed blocks, lengths and distances. */
public final class UnpackFixedTest {
    private static final int[] FIRST_LENGTHS = {
        3, 4, 5, 6, 7, 8, 9, 10, 11, 13, 15, 17, 19, 23, 27, 31, 35, 43, 51, 59, 67, 83, 99, 115, 131, 163, 195, 227
    };

    public static void main(String[] args) {
        everyLiteral();
        everyLength();
        everyDistance();
        overlaps();
        wrongSymbols();
        tooFarBack();
        Check.finish();
    }

    private static void everyLiteral() {
        Bits bits = Bits.zlib().fixed(true);
        byte[] content = new byte[256];
        for (int i = 0; i < 256; i++) {
            bits.literal(i);
            content[i] = (byte) i;
        }
        Unpacking.good("all literals", bits.end(content), content);
    }

    private static void everyLength() {
        for (int i = 0; i < FIRST_LENGTHS.length; i++) {
            int more = i < 8 ? 0 : i / 4 - 1;
            for (int extra = 0; extra < 1 << more; extra++) {
                int length = FIRST_LENGTHS[i] + extra;
                lengthDue(length, Bits.zlib().fixed(true).literal(65).copy(257 + i, extra, more, 0));
            }
        }
        lengthDue(258, Bits.zlib().fixed(true).literal(65).longCopy(1));
    }

    private static void lengthDue(int length, Bits bits) {
        byte[] content = Boxes.filled(length + 1, 65);
        Unpacking.good("length " + length, bits.end(content), content);
    }

    /** Each distance's lowest, highest and one between, in a row where every place looks different. */
    private static void everyDistance() {
        byte[] head = new byte[9000];
        for (int i = 0; i < head.length; i++) {
            head[i] = (byte) (i * i / 7 + i / 256);
        }
        for (int symbol = 0; symbol < 26; symbol++) {
            int more = Math.max(0, symbol / 2 - 1);
            int first = symbol < 4 ? symbol + 1 : (2 + symbol % 2 << more) + 1;
            for (int extra : new int[] {0, (1 << more) / 3, (1 << more) - 1}) {
                int distance = first + extra;
                if (distance <= head.length) {
                    distanceDue(head, distance, symbol, extra, more);
                }
            }
        }
        farDistances();
    }

    private static void distanceDue(byte[] head, int distance, int symbol, int extra, int more) {
        Bits bits = Bits.zlib().stored(false, head).fixed(true).copy(264, 0, 0, symbol).number(extra, more);
        byte[] content = copied(head, distance, 10);
        Unpacking.good("distance " + distance, bits.end(content), content);
    }

    /** So far back that the row before can't be fed byte by byte: it is made of long copies. */
    private static void farDistances() {
        byte[] head = new byte[16000];
        head[0] = 9;
        Bits start = Bits.zlib().fixed(false).literal(9);
        int have = 1;
        while (have + 259 <= head.length) {
            start.longCopy(1).literal(have % 144);
            Arrays.fill(head, have, have + 258, head[have - 1]);
            head[have + 258] = (byte) (have % 144);
            have += 259;
        }
        start.literal(256).fixed(true);
        byte[] content = Arrays.copyOf(head, have);
        for (int distance : new int[] {8193, 9000, 12288, 12289, 15000, have - 1, have}) {
            int symbol = distance < 12289 ? 26 : 27;
            int first = symbol == 26 ? 8193 : 12289;
            Bits bits = start.copyOf().copy(264, 0, 0, symbol).number(distance - first, 12);
            byte[] all = copied(content, distance, 10);
            Unpacking.good("distance " + distance, bits.end(all), all);
        }
        Bits far = start.copyOf().copy(264, 0, 0, 27).number(have + 1 - 12289, 12);
        Unpacking.broken("distance " + (have + 1) + " of " + have, far.end(content));
        Check.isTrue("the row is long", have > 15000);
    }

    private static byte[] copied(byte[] head, int distance, int length) {
        byte[] content = Arrays.copyOf(head, head.length + length);
        for (int i = head.length; i < content.length; i++) {
            content[i] = content[i - distance];
        }
        return content;
    }

    private static void overlaps() {
        byte[] head = Boxes.bytes(1, 2, 3, 4);
        for (int distance = 1; distance <= 4; distance++) {
            byte[] content = copied(head, distance, 258);
            Bits bits = Bits.zlib().fixed(true).literal(1).literal(2).literal(3).literal(4).longCopy(distance);
            Unpacking.good("258 from " + distance, bits.end(content), content);
        }
    }

    private static void wrongSymbols() {
        byte[] content = Boxes.filled(259, 65);
        for (int symbol : new int[] {286, 287}) {
            Bits bits = Bits.zlib().fixed(true).literal(65).literal(symbol).distance(0);
            Unpacking.broken("length symbol " + symbol, bits.end(content));
            Unpacking.broken("length symbol " + symbol + " alone",
                    Bits.zlib().fixed(true).literal(65).literal(symbol).end(Boxes.bytes(65)));
        }
        for (int symbol : new int[] {30, 31}) {
            Unpacking.broken("distance symbol " + symbol,
                    Bits.zlib().fixed(true).literal(65).literal(285).distance(symbol).end(content));
            Unpacking.broken("distance symbol " + symbol + " and 14 bits",
                    Bits.zlib().fixed(true).literal(65).literal(285).distance(symbol).number(0, 14).end(content));
        }
    }

    private static void tooFarBack() {
        Unpacking.broken("before the first byte of nothing", Bits.zlib().fixed(true).longCopy(1).end(new byte[258]));
        for (int have = 1; have <= 3; have++) {
            Bits bits = Bits.zlib().fixed(true);
            for (int i = 0; i < have; i++) {
                bits.literal(0);
            }
            byte[] content = new byte[have + 258];
            Unpacking.broken((have + 1) + " back of " + have, bits.copyOf().longCopy(have + 1).end(content));
            Unpacking.good(have + " back of " + have, bits.copyOf().longCopy(have).end(content), content);
        }
    }
}
