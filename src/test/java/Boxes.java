import java.util.Arrays;
import java.util.zip.Adler32;
import java.util.zip.Deflater;

/** Brings whole rows of bytes into boxes and out of them, within the 512 calls of an object. */
final class Boxes {
    static final int LIMIT = 16384;
    static final int MOST_FED = 9600;
    private static final int SHORT_TAPE = 2000;
    private static final int SHORT_RESULT = 1024;
    private static final int WORDS_OF_LONG_RESULT = 16;

    private Boxes() {
    }

    /** The tape becomes these bytes; long rows come packed, and the result changes too, if that is shorter. */
    static void load(ZlibBox x, byte[] bytes) {
        byte[] packed = bytes.length > SHORT_TAPE ? shortest(bytes) : bytes;
        if (packed.length < bytes.length) {
            feed(x, packed);
            x.unpack();
            x.again();
        } else {
            feed(x, bytes);
        }
    }

    /** ZLIB that gives these bytes and needs few calls to be fed. */
    static byte[] shortest(byte[] bytes) {
        byte[] copied = deflated(bytes, Deflater.BEST_COMPRESSION, Deflater.DEFAULT_STRATEGY);
        byte[] coded = deflated(bytes, Deflater.BEST_COMPRESSION, Deflater.HUFFMAN_ONLY);
        return coded.length < copied.length ? coded : copied;
    }

    /** The odd bytes are fed first, so that a tape of any length up to the limit can be fed. */
    static void feed(ZlibBox x, byte[] bytes) {
        if (bytes.length > MOST_FED) {
            throw new IllegalStateException("too many calls for one object: " + bytes.length + " bytes");
        }
        x.end(0);
        int odd = bytes.length % 20;
        if (odd > 0) {
            feedFrom(x, Arrays.copyOf(bytes, 20), 0);
            x.end(odd);
        }
        for (int i = odd; i < bytes.length; i += 20) {
            feedFrom(x, bytes, i);
        }
    }

    private static void feedFrom(ZlibBox x, byte[] bytes, int i) {
        x.feed(intAt(bytes, i), intAt(bytes, i + 4), intAt(bytes, i + 8), intAt(bytes, i + 12), intAt(bytes, i + 16));
    }

    private static int intAt(byte[] bytes, int i) {
        return java.nio.ByteBuffer.wrap(bytes).getInt(i);
    }

    static ZlibBox loaded(byte[] bytes) {
        ZlibBox x = new ZlibBox();
        load(x, bytes);
        return x;
    }

    /** Short results are read whole, longer ones at many places and by their sum; the tape may change. */
    static void resultDue(String what, ZlibBox x, byte[] want) {
        Check.due(what + ": count(1)", x.count(1), want.length);
        if (x.count(1) != want.length) {
            return;
        }
        int step = want.length <= SHORT_RESULT ? 8 : want.length / WORDS_OF_LONG_RESULT + 1;
        for (int i = 0; i < want.length; i += step) {
            Check.due(what + ": word(" + i + ")", x.word(i), wordAt(want, i));
        }
        if (want.length > SHORT_RESULT) {
            x.again();
            Check.due(what + ": adler of the result", x.adler(), adler(want));
        }
    }

    static long wordAt(byte[] bytes, int i) {
        return java.nio.ByteBuffer.wrap(Arrays.copyOfRange(bytes, i, i + 8)).getLong();
    }

    static int adler(byte[] bytes) {
        Adler32 sum = new Adler32();
        sum.update(bytes, 0, bytes.length);
        return (int) sum.getValue();
    }

    static byte[] deflated(byte[] bytes, int level, int strategy) {
        Deflater deflater = new Deflater(level);
        deflater.setStrategy(strategy);
        deflater.setInput(bytes);
        deflater.finish();
        byte[] row = new byte[2 * bytes.length + 100];
        int length = 0;
        // The first call may do no more than to set the strategy.
        while (!deflater.finished()) {
            length += deflater.deflate(row, length, row.length - length);
        }
        deflater.end();
        return Arrays.copyOf(row, length);
    }

    static byte[] bytes(int... values) {
        byte[] bytes = new byte[values.length];
        for (int i = 0; i < values.length; i++) {
            bytes[i] = (byte) values[i];
        }
        return bytes;
    }

    static byte[] joined(byte[]... parts) {
        java.io.ByteArrayOutputStream all = new java.io.ByteArrayOutputStream();
        for (byte[] part : parts) {
            all.writeBytes(part);
        }
        return all.toByteArray();
    }

    static byte[] filled(int length, int value) {
        byte[] bytes = new byte[length];
        Arrays.fill(bytes, (byte) value);
        return bytes;
    }
}
