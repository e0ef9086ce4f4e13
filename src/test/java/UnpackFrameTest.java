import java.util.Arrays;

/** Promise 5: the head and the end of ZLIB, and what is cut off or stands behind. */
public final class UnpackFrameTest {
    private static final byte[] HELLO = "hello hello hello, told and stored".getBytes(java.nio.charset.StandardCharsets.ISO_8859_1);

    public static void main(String[] args) {
        everyHead();
        everyCut();
        moreBehindTheEnd();
        everyWrongSum();
        anEmptyTape();
        theTapeIsUsedUp();
        manyBlocks();
        Check.finish();
    }

    private static void everyHead() {
        ZlibBox x = new ZlibBox();
        for (int c = 0; c < 256; c++) {
            for (int f = 0; f < 256; f++) {
                if (f % 128 == 0) {
                    x = new ZlibBox();
                }
                x.feed(c << 24 | f << 16 | 0x0300, 0x00000001, 0, 0, 0);
                x.end(8);
                int got;
                try {
                    got = x.unpack();
                } catch (UnsupportedOperationException e) {
                    got = -1;
                }
                boolean right = (c & 15) == 8 && c < 128 && (256 * c + f) % 31 == 0 && (f & 32) == 0;
                Check.due("head " + c + " " + f, got, right ? 0 : -1);
            }
        }
    }

    private static byte[] threeKinds() {
        int[] literals = new int[257];
        Arrays.fill(literals, 0, 255, 8);
        literals[255] = 9;
        literals[256] = 9;
        Bits bits = Bits.zlib().stored(false, Arrays.copyOf(HELLO, 10)).fixed(false);
        for (int i = 10; i < 20; i++) {
            bits.literal(HELLO[i]);
        }
        bits.literal(256).told(true, literals, new int[] {0});
        for (int i = 20; i < HELLO.length; i++) {
            bits.literal(HELLO[i]);
        }
        return bits.end(HELLO);
    }

    private static void everyCut() {
        byte[] tape = threeKinds();
        Unpacking.good("three kinds of blocks", tape, HELLO);
        byte[] packed = Reference.pack(HELLO);
        Unpacking.good("packed", packed, HELLO);
        for (int n = 0; n < tape.length; n++) {
            Unpacking.broken("three kinds, cut to " + n, Arrays.copyOf(tape, n));
        }
        for (int n = 0; n < packed.length; n++) {
            Unpacking.broken("packed, cut to " + n, Arrays.copyOf(packed, n));
        }
    }

    private static void moreBehindTheEnd() {
        byte[] tape = threeKinds();
        Unpacking.broken("a zero behind", Boxes.joined(tape, new byte[1]));
        Unpacking.broken("four bytes behind", Boxes.joined(tape, new byte[4]));
        Unpacking.broken("the same behind", Boxes.joined(tape, tape));
        Unpacking.broken("a block behind the last", Bits.zlib().fixed(true).literal(256).fixed(true).literal(65).end(Boxes.bytes(65)));
    }

    private static void everyWrongSum() {
        byte[] tape = threeKinds();
        for (int i = 1; i <= 4; i++) {
            for (int bit = 0; bit < 8; bit++) {
                byte[] wrong = tape.clone();
                wrong[wrong.length - i] ^= (byte) (1 << bit);
                Unpacking.broken("byte " + i + " of the sum, bit " + bit, wrong);
            }
        }
        byte[] empty = Boxes.bytes(120, 1, 3, 0, 0, 0, 0, 0);
        Unpacking.broken("the sum of nothing is 1", empty);
        Unpacking.broken("the highest byte of the sum is first", Boxes.bytes(120, 1, 3, 0, 1, 0, 0, 0));
    }

    private static void anEmptyTape() {
        Unpacking.broken("nothing", new byte[0]);
        Unpacking.broken("one byte", Boxes.bytes(120));
        Unpacking.broken("a head alone", Boxes.bytes(120, 1));
        Unpacking.broken("an end alone", Boxes.bytes(120, 1, 0, 0, 0, 1));
    }

    private static void theTapeIsUsedUp() {
        ZlibBox x = new ZlibBox();
        Boxes.load(x, threeKinds());
        Check.due("unpack()", x.unpack(), HELLO.length);
        Check.throwsDue("unpack() of nothing", UnsupportedOperationException.class, x::unpack);
        Boxes.resultDue("the result stays", x, HELLO);
        Check.due("feed behind unpack", x.feed(0x78010300, 0x00000001, 0, 0, 0), 20);
        x.end(8);
        Check.due("unpack()", x.unpack(), 0);
        Check.due("count(1)", x.count(1), 0);
    }

    /** Many empty blocks: what a block sets up must not be left to the next one. */
    private static void manyBlocks() {
        Bits bits = Bits.zlib();
        for (int i = 0; i < 300; i++) {
            bits.fixed(false).literal(i % 256).literal(256).stored(false, new byte[0]);
        }
        byte[] content = new byte[300];
        for (int i = 0; i < 300; i++) {
            content[i] = (byte) i;
        }
        Unpacking.broken("600 blocks, none the last", bits.copyOf().cut());
        Unpacking.good("600 blocks", bits.fixed(true).end(content), content);
        Unpacking.broken("kind 3, last", Bits.zlib().number(1, 1).number(3, 2).endWithout(new byte[0]));
        Unpacking.broken("kind 3", Bits.zlib().number(0, 1).number(3, 2).fixed(true).end(new byte[0]));
    }
}
