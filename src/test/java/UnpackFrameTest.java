import java.util.Arrays;

/** Promise 5: the head and the end of ZLIB, and what is cut off or stands behind. */
public final class UnpackFrameTest {
    private static final byte[] HELLO = "hello hello hello, told and stored".getBytes(java.nio.charset.StandardCharsets.ISO_8859_1);

    public static void main(String[] args) {
        everyHead();
        everyCut();
        moreBehindTheEnd();
        everyWrongSum();
        anEmptyTape();
        theTapeIsUsedUp();
        manyBlocks();
        theEdgesOfHeads();
        headsSayNothingOfDistances();
        whatStandsBehindTheLastBlock();
        theLastBlockIsTold();
        theFourKinds();
        Check.finish();
    }

    private static void everyHead() {
        ZlibBox x = new ZlibBox();
        for (int c = 0; c < 256; c++) {
            for (int f = 0; f < 256; f++) {
                if (f % 128 == 0) {
                    x = new ZlibBox();
                }
                x.feed(c << 24 | f << 16 | 0x0300, 0x00000001, 0, 0, 0);
                x.end(8);
                int got;
                try {
                    got = x.unpack();
                } catch (UnsupportedOperationException e) {
                    got = -1;
                }
                boolean right = (c & 15) == 8 && c < 128 && (256 * c + f) % 31 == 0 && (f & 32) == 0;
                Check.due("head " + c + " " + f, got, right ? 0 : -1);
            }
        }
    }

    private static byte[] threeKinds() {
        int[] literals = new int[257];
        Arrays.fill(literals, 0, 255, 8);
        literals[255] = 9;
        literals[256] = 9;
        Bits bits = Bits.zlib().stored(false, Arrays.copyOf(HELLO, 10)).fixed(false);
        for (int i = 10; i < 20; i++) {
            bits.literal(HELLO[i]);
        }
        bits.literal(256).told(true, literals, new int[] {0});
        for (int i = 20; i < HELLO.length; i++) {
            bits.literal(HELLO[i]);
        }
        return bits.end(HELLO);
    }

    private static void everyCut() {
        byte[] tape = threeKinds();
        Unpacking.good("three kinds of blocks", tape, HELLO);
        byte[] packed = Reference.pack(HELLO);
        Unpacking.good("packed", packed, HELLO);
        for (int n = 0; n < tape.length; n++) {
            Unpacking.broken("three kinds, cut to " + n, Arrays.copyOf(tape, n));
        }
        for (int n = 0; n < packed.length; n++) {
            Unpacking.broken("packed, cut to " + n, Arrays.copyOf(packed, n));
        }
    }

    private static void moreBehindTheEnd() {
        byte[] tape = threeKinds();
        Unpacking.broken("a zero behind", Boxes.joined(tape, new byte[1]));
        Unpacking.broken("four bytes behind", Boxes.joined(tape, new byte[4]));
        Unpacking.broken("the same behind", Boxes.joined(tape, tape));
        Unpacking.broken("a block behind the last", Bits.zlib().fixed(true).literal(256).fixed(true).literal(65).end(Boxes.bytes(65)));
    }

    private static void everyWrongSum() {
        byte[] tape = threeKinds();
        for (int i = 1; i <= 4; i++) {
            for (int bit = 0; bit < 8; bit++) {
                byte[] wrong = tape.clone();
                wrong[wrong.length - i] ^= (byte) (1 << bit);
                Unpacking.broken("byte " + i + " of the sum, bit " + bit, wrong);
            }
        }
        byte[] empty = Boxes.bytes(120, 1, 3, 0, 0, 0, 0, 0);
        Unpacking.broken("the sum of nothing is 1", empty);
        Unpacking.broken("the highest byte of the sum is first", Boxes.bytes(120, 1, 3, 0, 1, 0, 0, 0));
    }

    private static void anEmptyTape() {
        Unpacking.broken("nothing", new byte[0]);
        Unpacking.broken("one byte", Boxes.bytes(120));
        Unpacking.broken("a head alone", Boxes.bytes(120, 1));
        Unpacking.broken("an end alone", Boxes.bytes(120, 1, 0, 0, 0, 1));
    }

    private static void theTapeIsUsedUp() {
        ZlibBox x = new ZlibBox();
        Boxes.load(x, threeKinds());
        Check.due("unpack()", x.unpack(), HELLO.length);
        Check.throwsDue("unpack() of nothing", UnsupportedOperationException.class, x::unpack);
        Boxes.resultDue("the result stays", x, HELLO);
        Check.due("feed behind unpack", x.feed(0x78010300, 0x00000001, 0, 0, 0), 20);
        x.end(8);
        Check.due("unpack()", x.unpack(), 0);
        Check.due("count(1)", x.count(1), 0);
    }

    /** Many empty blocks: what a block sets up must not be left to the next one. */
    private static void manyBlocks() {
        Bits bits = Bits.zlib();
        for (int i = 0; i < 300; i++) {
            bits.fixed(false).literal(i % 256).literal(256).stored(false, new byte[0]);
        }
        byte[] content = new byte[300];
        for (int i = 0; i < 300; i++) {
            content[i] = (byte) i;
        }
        Unpacking.broken("600 blocks, none the last", bits.copyOf().cut());
        Unpacking.good("600 blocks", bits.fixed(true).end(content), content);
        Unpacking.broken("kind 3, last", Bits.zlib().number(1, 1).number(3, 2).endWithout(new byte[0]));
        Unpacking.broken("kind 3", Bits.zlib().number(0, 1).number(3, 2).fixed(true).end(new byte[0]));
    }

    /** Each sentence on c and f by itself: all others hold where it is the one that does not. */
    private static void theEdgesOfHeads() {
        headDue("c / 16 is 0", 0x08, 0x1D, true);
        headDue("c / 16 is 7", 0x78, 0x01, true);
        headDue("c / 16 is 8", 0x88, 0x1C, false);
        headDue("c / 16 is 15", 0xF8, 0x00, false);
        headDue("c mod 16 is 7", 0x77, 0x09, false);
        headDue("c mod 16 is 9", 0x79, 0x18, false);
        headDue("a multiple of 31 and 1 less", 0x78, 0x00, false);
        headDue("a multiple of 31 and 1 more", 0x78, 0x02, false);
        for (int f = 0x01; f < 256; f += 31) {
            headDue("f / 32 is " + f / 32, 0x78, f, f / 32 % 2 == 0);
        }
    }

    /** Copies are "at most 32768 back", whatever c / 16 is. */
    private static void headsSayNothingOfDistances() {
        byte[] content = Boxes.filled(16003, 65);
        byte[] tape = Bits.zlib().fixed(true).run(65, 16000).copy(257, 0, 0, 27).number(16000 - 12289, 12).end(content);
        for (int kind = 0; kind <= 7; kind++) {
            int c = 16 * kind + 8;
            tape[0] = (byte) c;
            tape[1] = (byte) (31 - 256 * c % 31);
            Unpacking.good("16000 back where c / 16 is " + kind, tape, content);
        }
    }

    private static void headDue(String what, int c, int f, boolean right) {
        byte[] tape = threeKinds();
        tape[0] = (byte) c;
        tape[1] = (byte) f;
        if (right) {
            Unpacking.good(what, tape, HELLO);
        } else {
            Unpacking.broken(what, tape);
        }
    }

    /** "nothing counts up to the next byte's beginning": 0 .. 7 bits, and each word that they can be. */
    private static void whatStandsBehindTheLastBlock() {
        for (int literals = 0; literals < 8; literals++) {
            byte[] content = Boxes.filled(literals, 200);
            Bits bits = Bits.zlib().fixed(true);
            for (int i = 0; i < literals; i++) {
                bits.literal(200);
            }
            bits.literal(256);
            int free = (8 - (3 + 9 * literals + 7) % 8) % 8;
            for (int word = 0; word < 1 << free; word++) {
                byte[] tape = bits.copyOf().number(word, free).endWithout(content);
                Unpacking.good(free + " bits that do not count: " + word, tape, content);
            }
            Unpacking.broken(free + " bits and a byte", bits.copyOf().toByte().number(0, 8).endWithout(content));
        }
        Unpacking.broken("a byte behind a stored block", Bits.zlib().stored(true, HELLO).number(0, 8).endWithout(HELLO));
    }

    /** "a bit, 1 for the last one": without it more is read, behind it no more. */
    private static void theLastBlockIsTold() {
        byte[] one = Boxes.bytes(65);
        int[] literals = new int[257];
        literals[65] = 1;
        literals[256] = 1;
        for (int last = 0; last < 2; last++) {
            boolean isLast = last == 1;
            byte[][] tapes = {
                Bits.zlib().stored(isLast, one).endWithout(one),
                Bits.zlib().fixed(isLast).literal(65).end(one),
                Bits.zlib().told(isLast, literals, new int[1]).literal(65).end(one),
            };
            for (int kind = 0; kind < 3; kind++) {
                if (isLast) {
                    Unpacking.good("kind " + kind + ", the last", tapes[kind], one);
                } else {
                    Unpacking.broken("kind " + kind + ", none is the last", tapes[kind]);
                }
            }
            byte[] two = isLast ? one : Boxes.bytes(65, 66);
            byte[] tape = Bits.zlib().fixed(isLast).literal(65).literal(256).fixed(true).literal(66).end(two);
            if (isLast) {
                Unpacking.broken("a block behind the last, and the sum of the first", tape);
            } else {
                Unpacking.good("two blocks", tape, two);
            }
        }
    }

    /** 3 is no kind, neither first nor behind others, whatever follows. */
    private static void theFourKinds() {
        for (int last = 0; last < 2; last++) {
            Bits start = Bits.zlib().fixed(false).literal(65).literal(256).number(last, 1).number(3, 2);
            Unpacking.broken("kind 3 behind a block", start.copyOf().endWithout(Boxes.bytes(65)));
            Unpacking.broken("kind 3 and an end", start.copyOf().code(0, 7).endWithout(Boxes.bytes(65)));
            Unpacking.broken("kind 3 and a stored row", start.copyOf().toByte().number(0, 16).number(65535, 16).endWithout(Boxes.bytes(65)));
            Unpacking.broken("kind 3 alone", Bits.zlib().number(last, 1).number(3, 2).cut());
        }
    }
}
