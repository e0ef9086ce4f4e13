import java.util.Arrays;
import java.util.Random;
import java.util.zip.Deflater;

/** Promise 5: unpack compared with the library's Deflater and with another reading of the document. */
public final class UnpackRandomTest {
    private static final int[] COUNTS = new int[3];

    public static void main(String[] args) {
        Random random = new Random(5);
        libraryRows(random);
        damagedRows(random);
        randomBits(random);
        randomCodes(random);
        for (Reference.Outcome outcome : Reference.Outcome.values()) {
            Check.isTrue("rows that are " + outcome, COUNTS[outcome.ordinal()] >= 20);
        }
        Check.finish();
    }

    private static void libraryRows(Random random) {
        int[] strategies = {Deflater.DEFAULT_STRATEGY, Deflater.FILTERED, Deflater.HUFFMAN_ONLY};
        for (int i = 0; i < 300; i++) {
            byte[] content = content(random, random.nextInt(i % 10 == 0 ? Boxes.LIMIT + 1 : 1000));
            byte[] tape = Boxes.deflated(content, random.nextInt(10), strategies[i % 3]);
            if (tape.length <= Boxes.MOST_FED) {
                Unpacking.good("the library's row " + i, tape, content);
            }
        }
    }

    private static byte[] content(Random random, int length) {
        byte[] content = new byte[length];
        int kinds = 1 + random.nextInt(60);
        for (int i = 0; i < length; i++) {
            boolean repeated = i > 20 && random.nextInt(4) != 0;
            content[i] = repeated ? content[i - 1 - random.nextInt(20)] : (byte) (7 * random.nextInt(kinds));
        }
        return content;
    }

    private static void compare(String what, byte[] tape) {
        Reference want = Reference.unpack(tape);
        COUNTS[want.outcome().ordinal()]++;
        switch (want.outcome()) {
            case GOOD:
                Unpacking.good(what, tape, want.content());
                break;
            case BROKEN:
                Unpacking.broken(what, tape);
                break;
            default:
                Unpacking.tooMany(what, tape);
                break;
        }
    }

    /** The sum is made right again, so that it does not hide what else is found. */
    private static void damagedRows(Random random) {
        for (int i = 0; i < 6000; i++) {
            byte[] content = content(random, 50 + random.nextInt(300));
            byte[] tape = Boxes.deflated(content, 1 + random.nextInt(9), Deflater.DEFAULT_STRATEGY);
            int damages = 1 + random.nextInt(2);
            for (int k = 0; k < damages; k++) {
                int place = 2 + random.nextInt(random.nextInt(3) == 0 ? tape.length - 2 : Math.min(60, tape.length - 2));
                tape[place] ^= (byte) (1 << random.nextInt(8));
            }
            byte[] longer = random.nextBoolean() ? tape : Arrays.copyOf(tape, tape.length + 200);
            compare("damaged row " + i, Reference.withRightEnd(longer));
        }
    }

    private static void randomBits(Random random) {
        for (int i = 0; i < 3000; i++) {
            byte[] bits = new byte[random.nextInt(60)];
            random.nextBytes(bits);
            compare("random bits " + i, Reference.withRightEnd(Boxes.joined(Boxes.bytes(120, 1), bits)));
        }
    }

    /** Told CODES that are right or nearly so, and random bits behind them. */
    private static void randomCodes(Random random) {
        for (int i = 0; i < 6000; i++) {
            int[] literals = spread(codes(random, 2 + random.nextInt(40)), 257 + random.nextInt(30), random);
            if (random.nextInt(10) != 0) {
                giveEnd(literals);
            }
            int kinds = random.nextInt(10);
            int[] distances = spread(kinds < 2 ? new int[kinds] : codes(random, kinds), 10 + random.nextInt(21), random);
            Bits bits = Bits.zlib();
            if (random.nextInt(4) == 0) {
                bits.fixed(false).literal(65);
                for (int k = 0; k < 63; k++) {
                    bits.longCopy(1);
                }
                bits.literal(256);
            } else {
                bits.stored(false, content(random, random.nextInt(300)));
            }
            byte[] noise = new byte[random.nextInt(200)];
            random.nextBytes(noise);
            compare("random codes " + i, Reference.withRightEnd(bits.told(true, literals, distances).bytes(noise).cut()));
        }
    }

    /** Lengths that use up all words: one word is split again and again; at times one length is changed. */
    private static int[] codes(Random random, int size) {
        int[] lengths = new int[size];
        lengths[0] = 0;
        for (int have = 1; have < size; have++) {
            int split = random.nextInt(have);
            while (lengths[split] >= 15) {
                split = (split + 1) % have;
            }
            lengths[split]++;
            lengths[have] = lengths[split];
        }
        if (random.nextInt(12) == 0) {
            lengths[random.nextInt(size)] = random.nextInt(16);
        }
        return lengths;
    }

    private static int[] spread(int[] lengths, int size, Random random) {
        int[] row = new int[size];
        for (int length : lengths) {
            int place = random.nextInt(size);
            while (row[place] != 0) {
                place = random.nextInt(size);
            }
            row[place] = length;
        }
        if (lengths.length == 1) {
            row[random.nextInt(size)] = random.nextInt(4) == 0 ? 2 : 1;
        }
        return row;
    }

    private static void giveEnd(int[] literals) {
        for (int i = 0; literals[256] == 0 && i < literals.length; i++) {
            if (literals[i] != 0) {
                literals[256] = literals[i];
                literals[i] = 0;
            }
        }
    }
}
