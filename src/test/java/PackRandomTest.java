import java.io.ByteArrayOutputStream;
import java.util.Arrays;
import java.util.Random;
import java.util.zip.DataFormatException;
import java.util.zip.Inflater;

/** Promise 6: pack compared with another reading of the document and with the library's Inflater. */
public final class PackRandomTest {
    public static void main(String[] args) throws DataFormatException {
        Random random = new Random(6);
        for (int i = 0; i < 1500; i++) {
            compare("short row " + i, row(random, random.nextInt(300)));
        }
        for (int i = 0; i < 60; i++) {
            compare("long row " + i, row(random, 4000 + random.nextInt(5500)));
        }
        for (int i = 0; i < 30; i++) {
            compare("longest row " + i, pieces(random, Boxes.LIMIT - random.nextInt(200)));
        }
        Check.finish();
    }

    private static byte[] row(Random random, int length) {
        return random.nextInt(3) == 0 ? letters(random, length) : pieces(random, length);
    }

    private static byte[] letters(Random random, int length) {
        int kinds = 1 + random.nextInt(random.nextBoolean() ? 4 : 256);
        int first = random.nextInt(256);
        byte[] row = new byte[length];
        for (int i = 0; i < length; i++) {
            row[i] = (byte) (first + random.nextInt(kinds));
        }
        return row;
    }

    /** New bytes and earlier ones by turns, so that there are copies of all lengths and distances. */
    private static byte[] pieces(Random random, int length) {
        ByteArrayOutputStream row = new ByteArrayOutputStream();
        while (row.size() < length) {
            byte[] before = row.toByteArray();
            int size = 1 + random.nextInt(random.nextInt(4) == 0 ? 400 : 12);
            if (before.length == 0 || random.nextInt(3) == 0) {
                byte[] piece = new byte[Math.min(size, 30)];
                random.nextBytes(piece);
                row.writeBytes(piece);
            } else {
                int far = 1 + random.nextInt(Math.min(before.length, random.nextInt(3) == 0 ? 4200 : 100));
                for (int i = 0; i < size; i++) {
                    row.write(before[before.length - far + i % far]);
                }
            }
        }
        return Arrays.copyOf(row.toByteArray(), length);
    }

    private static void compare(String what, byte[] tape) throws DataFormatException {
        byte[] want = Reference.pack(tape);
        Check.bytesDue(what + ": the library reads it", inflated(want, tape.length), tape);
        ZlibBox x = Boxes.loaded(tape);
        if (want.length > Boxes.LIMIT) {
            Check.throwsDue(what + ": pack()", IndexOutOfBoundsException.class, x::pack);
            return;
        }
        Check.due(what + ": pack()", x.pack(), want.length);
        Check.due(what + ": adler()", x.adler(), Boxes.adler(tape));
        Boxes.resultDue(what, x, want);
    }

    private static byte[] inflated(byte[] packed, int length) throws DataFormatException {
        Inflater inflater = new Inflater();
        inflater.setInput(packed);
        byte[] row = new byte[length + 10];
        int got = inflater.inflate(row);
        inflater.end();
        return Arrays.copyOf(row, got);
    }
}
