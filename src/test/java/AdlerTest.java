import java.util.Arrays;
import java.util.Random;

/** Promise 7: adler. */
public final class AdlerTest {
    public static void main(String[] args) {
        Check.due("of nothing", new ZlibBox().adler(), 1);
        byte[] name = "Wikipedia".getBytes(java.nio.charset.StandardCharsets.ISO_8859_1);
        Check.due("of Wikipedia", Boxes.loaded(name).adler(), 0x11E60398);
        longRows();
        itChangesNothing();
        edgesOfTheModulus();
        Check.finish();
    }

    private static void longRows() {
        for (int value : new int[] {0, 1, 127, 128, 254, 255}) {
            for (int length : new int[] {1, 2, 19, 256, 257, 258, 5551, 5552, 5553, 16383, 16384}) {
                byte[] row = Boxes.filled(length, value);
                Check.due(length + " times " + value, Boxes.loaded(row).adler(), Boxes.adler(row));
            }
        }
        Random random = new Random(1);
        for (int i = 0; i < 50; i++) {
            byte[] row = new byte[random.nextInt(9000)];
            random.nextBytes(row);
            Check.due("random row " + i, Boxes.loaded(row).adler(), Boxes.adler(row));
        }
    }

    private static void itChangesNothing() {
        ZlibBox x = new ZlibBox();
        x.pack();
        x.feed(1, 2, 3, 4, 5);
        int adler = x.adler();
        Check.due("adler() twice", x.adler(), adler);
        Check.due("count(0)", x.count(0), 20);
        Check.due("count(1)", x.count(1), 8);
        Check.due("word(0)", x.word(0), 0x7801030000000001L);
    }

    /** 256 times 255 and then 240 make a 65521, which is 0; 239 and 241 are its neighbours. */
    private static void edgesOfTheModulus() {
        for (int last = 238; last <= 242; last++) {
            byte[] row = Boxes.filled(257, 255);
            row[256] = (byte) last;
            Check.due("256 times 255 and " + last, Boxes.loaded(row).adler(), Boxes.adler(row));
        }
        Check.due("a is 0 there", Boxes.loaded(edgeRow()).adler() & 65535, 0);
    }

    private static byte[] edgeRow() {
        byte[] row = Arrays.copyOf(Boxes.filled(256, 255), 257);
        row[256] = (byte) 240;
        return row;
    }
}
