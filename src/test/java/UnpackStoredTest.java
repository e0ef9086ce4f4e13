import java.util.Arrays;
import java.util.Random;

/** Promise 5: stored blocks. */
public final class UnpackStoredTest {
    public static void main(String[] args) {
        lengths();
        wrongOtherNumbers();
        whatIsSkipped();
        tooFewBytes();
        copiesFromStored();
        Check.finish();
    }

    private static void lengths() {
        Random random = new Random(2);
        for (int n : new int[] {0, 1, 2, 255, 256, 257, 4096, 9500}) {
            byte[] content = new byte[n];
            random.nextBytes(content);
            Unpacking.good("stored " + n, Bits.zlib().stored(true, content).endWithout(content), content);
        }
    }

    private static void wrongOtherNumbers() {
        byte[] content = Boxes.bytes(1, 2, 3);
        for (int bit = 0; bit < 16; bit++) {
            int other = 65532 ^ 1 << bit;
            Unpacking.broken("the other number, bit " + bit,
                    Bits.zlib().storedHead(true, 3, other).bytes(content).endWithout(content));
        }
        Unpacking.broken("n twice", Bits.zlib().storedHead(true, 3, 3).bytes(content).endWithout(content));
        Unpacking.broken("65536 - n", Bits.zlib().storedHead(true, 3, 65533).bytes(content).endWithout(content));
        Unpacking.broken("0 and 0", Bits.zlib().storedHead(true, 0, 0).endWithout(new byte[0]));
    }

    /** The bits up to the next byte are ones here, and there may be none of them, or seven. */
    private static void whatIsSkipped() {
        for (int literals = 0; literals < 9; literals++) {
            Bits bits = Bits.zlib().fixed(false);
            byte[] content = new byte[literals + 2];
            for (int i = 0; i < literals; i++) {
                bits.literal(200);
                content[i] = (byte) 200;
            }
            content[literals] = 77;
            content[literals + 1] = (byte) 255;
            byte[] stored = Arrays.copyOfRange(content, literals, literals + 2);
            Unpacking.good(literals + " literals of 9 bits before",
                    bits.literal(256).stored(true, stored).endWithout(content), content);
        }
    }

    private static void tooFewBytes() {
        byte[] content = Boxes.filled(20, 9);
        byte[] tape = Bits.zlib().storedHead(true, 21, 65514).bytes(content).cut();
        Unpacking.broken("20 of 21", tape);
        Unpacking.broken("the sum is taken for content", Bits.zlib().storedHead(true, 24, 65511).bytes(content).endWithout(content));
        Unpacking.broken("65535 bytes", Bits.zlib().storedHead(true, 65535, 0).bytes(content).cut());
        Unpacking.broken("no numbers", Bits.zlib().number(1, 1).number(0, 2).cut());
        Unpacking.broken("one number", Bits.zlib().number(1, 1).number(0, 2).toByte().number(0, 16).cut());
    }

    private static void copiesFromStored() {
        byte[] stored = Boxes.bytes(10, 20, 30, 40);
        byte[] content = Boxes.bytes(10, 20, 30, 40, 10, 20, 30, 40, 10);
        byte[] tape = Bits.zlib().stored(false, stored).fixed(true).copy(259, 0, 0, 3).end(content);
        Unpacking.good("a copy from a stored block", tape, content);
    }
}
