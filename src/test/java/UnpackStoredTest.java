import java.util.Arrays;
import java.util.Random;

/** Promise 5: stored blocks. */
public final class UnpackStoredTest {
    public static void main(String[] args) {
        lengths();
        wrongOtherNumbers();
        whatIsSkipped();
        tooFewBytes();
        copiesFromStored();
        everySkippedWord();
        theTwoNumbers();
        asManyBytesAsTold();
        Check.finish();
    }

    private static void lengths() {
        Random random = new Random(2);
        for (int n : new int[] {0, 1, 2, 255, 256, 257, 4096, 9500}) {
            byte[] content = new byte[n];
            random.nextBytes(content);
            Unpacking.good("stored " + n, Bits.zlib().stored(true, content).endWithout(content), content);
        }
    }

    private static void wrongOtherNumbers() {
        byte[] content = Boxes.bytes(1, 2, 3);
        for (int bit = 0; bit < 16; bit++) {
            int other = 65532 ^ 1 << bit;
            Unpacking.broken("the other number, bit " + bit,
                    Bits.zlib().storedHead(true, 3, other).bytes(content).endWithout(content));
        }
        Unpacking.broken("n twice", Bits.zlib().storedHead(true, 3, 3).bytes(content).endWithout(content));
        Unpacking.broken("65536 - n", Bits.zlib().storedHead(true, 3, 65533).bytes(content).endWithout(content));
        Unpacking.broken("0 and 0", Bits.zlib().storedHead(true, 0, 0).endWithout(new byte[0]));
    }

    /** The bits up to the next byte are ones here, and there may be none of them, or seven. */
    private static void whatIsSkipped() {
        for (int literals = 0; literals < 9; literals++) {
            Bits bits = Bits.zlib().fixed(false);
            byte[] content = new byte[literals + 2];
            for (int i = 0; i < literals; i++) {
                bits.literal(200);
                content[i] = (byte) 200;
            }
            content[literals] = 77;
            content[literals + 1] = (byte) 255;
            byte[] stored = Arrays.copyOfRange(content, literals, literals + 2);
            Unpacking.good(literals + " literals of 9 bits before",
                    bits.literal(256).stored(true, stored).endWithout(content), content);
        }
    }

    private static void tooFewBytes() {
        byte[] content = Boxes.filled(20, 9);
        byte[] tape = Bits.zlib().storedHead(true, 21, 65514).bytes(content).cut();
        Unpacking.broken("20 of 21", tape);
        Unpacking.broken("the sum is taken for content", Bits.zlib().storedHead(true, 24, 65511).bytes(content).endWithout(content));
        Unpacking.broken("65535 bytes", Bits.zlib().storedHead(true, 65535, 0).bytes(content).cut());
        Unpacking.broken("no numbers", Bits.zlib().number(1, 1).number(0, 2).cut());
        Unpacking.broken("one number", Bits.zlib().number(1, 1).number(0, 2).toByte().number(0, 16).cut());
    }

    private static void copiesFromStored() {
        byte[] stored = Boxes.bytes(10, 20, 30, 40);
        byte[] content = Boxes.bytes(10, 20, 30, 40, 10, 20, 30, 40, 10);
        byte[] tape = Bits.zlib().stored(false, stored).fixed(true).copy(259, 0, 0, 3).end(content);
        Unpacking.good("a copy from a stored block", tape, content);
    }

    /** "up to the next byte's beginning nothing counts": five bits here, each word that they can be. */
    private static void everySkippedWord() {
        byte[] content = Boxes.bytes(9, 8, 7);
        for (int word = 0; word < 32; word++) {
            Bits bits = Bits.zlib().number(1, 1).number(0, 2).number(word, 5).number(3, 16).number(65532, 16);
            Unpacking.good("skipped: " + word, bits.bytes(content).endWithout(content), content);
        }
        // Where the block's kind ends a byte, the numbers stand in the very next one.
        Bits even = Bits.zlib().fixed(false).literal(200).literal(200).literal(200).literal(256);
        byte[] four = Boxes.bytes(200, 200, 200, 9);
        Bits right = even.copyOf().number(1, 1).number(0, 2);
        Check.isTrue("the kind ends a byte", right.atByte());
        Unpacking.good("nothing is skipped", right.copyOf().number(1, 16).number(65534, 16).number(9, 8).endWithout(four), four);
        Unpacking.broken("a byte too many is skipped",
                right.copyOf().number(0, 8).number(1, 16).number(65534, 16).number(9, 8).endWithout(four));
    }

    /** "two numbers of 16 bits n and 65535 - n": each bit of n, and the numbers beside the right one. */
    private static void theTwoNumbers() {
        for (int n = 1; n <= 8192; n *= 2) {
            byte[] content = Rows.pattern(n);
            Unpacking.good("n is " + n, Bits.zlib().stored(true, content).endWithout(content), content);
            for (int wrong : new int[] {65535 - n - 1, 65535 - n + 1, n, 65535, 0}) {
                byte[] few = Boxes.filled(n, 1);
                Unpacking.broken(n + " and " + wrong, Bits.zlib().storedHead(true, n, wrong).bytes(few).endWithout(few));
            }
        }
        Unpacking.good("0 and 65535", Bits.zlib().storedHead(true, 0, 65535).endWithout(new byte[0]), new byte[0]);
        Unpacking.broken("0 and 65534", Bits.zlib().storedHead(true, 0, 65534).endWithout(new byte[0]));
        Unpacking.broken("1 and 65535", Bits.zlib().storedHead(true, 1, 65535).bytes(new byte[1]).endWithout(new byte[1]));
        byte[] other = Bits.zlib().number(1, 1).number(0, 2).toByte().code(3, 16).code(65532, 16).bytes(new byte[3]).endWithout(new byte[3]);
        Unpacking.broken("numbers with their highest bit first", other);
    }

    /** "n bytes": one byte more or less than told moves what stands behind. */
    private static void asManyBytesAsTold() {
        for (int n : new int[] {0, 1, 2, 255, 256, 300}) {
            byte[] content = Boxes.filled(n, 33);
            byte[] more = Boxes.filled(n + 1, 33);
            Unpacking.good(n + " of " + n, Bits.zlib().storedHead(true, n, 65535 - n).bytes(content).endWithout(content), content);
            Unpacking.broken((n + 1) + " of " + n, Bits.zlib().storedHead(true, n, 65535 - n).bytes(more).endWithout(content));
            Unpacking.broken(n + " of " + (n + 1), Bits.zlib().storedHead(true, n + 1, 65534 - n).bytes(content).endWithout(content));
        }
        for (int n : new int[] {5, 9, 32767, 32768, 65534, 65535}) {
            Unpacking.broken("4 bytes of " + n, Bits.zlib().storedHead(true, n, 65535 - n).bytes(new byte[4]).cut());
        }
    }
}
