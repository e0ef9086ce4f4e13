import java.util.Arrays;
import java.util.Random;

/** Promise 7: adler. */
public final class AdlerTest {
    public static void main(String[] args) {
        Check.due("of nothing", new ZlibBox().adler(), 1);
        byte[] name = "Wikipedia".getBytes(java.nio.charset.StandardCharsets.ISO_8859_1);
        Check.due("of Wikipedia", Boxes.loaded(name).adler(), 0x11E60398);
        longRows();
        itChangesNothing();
        edgesOfTheModulus();
        edgesOfTheSecondSum();
        sumsOfTheShortestAndLongestTapes();
        toldSumsAreBelowTheModulus();
        Check.finish();
    }

    private static void longRows() {
        for (int value : new int[] {0, 1, 127, 128, 254, 255}) {
            for (int length : new int[] {1, 2, 19, 256, 257, 258, 5551, 5552, 5553, 16383, 16384}) {
                byte[] row = Boxes.filled(length, value);
                Check.due(length + " times " + value, Boxes.loaded(row).adler(), Boxes.adler(row));
            }
        }
        Random random = new Random(1);
        for (int i = 0; i < 50; i++) {
            byte[] row = new byte[random.nextInt(9000)];
            random.nextBytes(row);
            Check.due("random row " + i, Boxes.loaded(row).adler(), Boxes.adler(row));
        }
    }

    private static void itChangesNothing() {
        ZlibBox x = new ZlibBox();
        x.pack();
        x.feed(1, 2, 3, 4, 5);
        int adler = x.adler();
        Check.due("adler() twice", x.adler(), adler);
        Check.due("count(0)", x.count(0), 20);
        Check.due("count(1)", x.count(1), 8);
        Check.due("word(0)", x.word(0), 0x7801030000000001L);
    }

    /** 256 times 255 and then 240 make a 65521, which is 0; 239 and 241 are its neighbours. */
    private static void edgesOfTheModulus() {
        for (int last = 238; last <= 242; last++) {
            byte[] row = Boxes.filled(257, 255);
            row[256] = (byte) last;
            Check.due("256 times 255 and " + last, Boxes.loaded(row).adler(), Boxes.adler(row));
        }
        Check.due("a is 0 there", Boxes.loaded(edgeRow()).adler() & 65535, 0);
    }

    private static byte[] edgeRow() {
        byte[] row = Arrays.copyOf(Boxes.filled(256, 255), 257);
        row[256] = (byte) 240;
        return row;
    }

    /** "both modulo 65521": rows whose last byte makes b 65520, 65521, which is 0, and 65522, which is 1. */
    private static void edgesOfTheSecondSum() {
        for (int b : new int[] {65519, 65520, 0, 1, 2, 32767, 32768}) {
            byte[] row = rowWithSecondSum(b);
            Check.due("b is " + b, Boxes.adler(row) >>> 16, b);
            Check.due("adler() where b is " + b, Boxes.loaded(row).adler(), Boxes.adler(row));
        }
    }

    /** The last byte is added to b once, so b can be met as soon as it is less than 256 away. */
    private static byte[] rowWithSecondSum(int b) {
        for (int length = 1; length < Boxes.LIMIT; length++) {
            byte[] row = Boxes.filled(length, 77);
            row[length - 1] = 0;
            int away = Math.floorMod(b - (Boxes.adler(row) >>> 16), 65521);
            if (away < 256) {
                row[length - 1] = (byte) away;
                return row;
            }
        }
        throw new IllegalStateException("no such row");
    }

    private static void sumsOfTheShortestAndLongestTapes() {
        new Held("no byte").adler().feed(0, 0, 0, 0, 0).end(0).adler().stateDue();
        new Held("one byte 0").feed(0, 0, 0, 0, 0).end(1).adler().stateDue();
        new Held("one byte 255").feed(-1, 0, 0, 0, 0).end(1).adler().stateDue();
        Held x = Held.holding("16384 times 255", Boxes.filled(Boxes.LIMIT, 255)).adler().stateDue();
        x.end(16383).adler().end(1).adler().stateDue();
    }

    /** A sum that is told as it is before the modulus is BROKEN: 65521 .. 65535 for 0 .. 14. */
    private static void toldSumsAreBelowTheModulus() {
        for (int a = 0; a <= 14; a++) {
            byte[] row = Boxes.filled(257, 255);
            row[256] = (byte) (240 + a);
            int sum = Boxes.adler(row);
            Check.due("a of the row", sum & 65535, a);
            Unpacking.good("a is told as " + a, withSum(row, sum), row);
            Unpacking.broken("a is told as " + (a + 65521), withSum(row, sum + 65521));
        }
        for (int b = 0; b <= 14; b++) {
            byte[] row = rowWithSecondSum(b);
            int sum = Boxes.adler(row);
            Unpacking.good("b is told as " + b, withSum(row, sum), row);
            Unpacking.broken("b is told as " + (b + 65521), withSum(row, sum + (65521 << 16)));
        }
    }

    private static byte[] withSum(byte[] row, int sum) {
        byte[] tape = Bits.zlib().stored(true, row).cut();
        return Boxes.joined(tape, Boxes.bytes(sum >> 24, sum >> 16, sum >> 8, sum));
    }
}
