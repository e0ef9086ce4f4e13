import java.io.ByteArrayOutputStream;
import java.util.HashMap;
import java.util.Map;

/** Another reading of the document, slow and by words of bits, that the program is compared with. */
final class Reference {
    /** How a reading ended. */
    enum Outcome { GOOD, BROKEN, TOO_MANY }

    private static final class Stop extends RuntimeException {
        private static final long serialVersionUID = 1L;
        private final transient Outcome outcome;

        Stop(Outcome outcome) {
            super(null, null, false, false);
            this.outcome = outcome;
        }
    }

    private static final int[] ORDER = {16, 17, 18, 0, 8, 7, 9, 6, 10, 5, 11, 4, 12, 3, 13, 2, 14, 1, 15};

    private final byte[] tape;
    private int place;
    private final byte[] out = new byte[Boxes.LIMIT];
    private int written;
    private Outcome outcome = Outcome.GOOD;

    private Reference(byte[] tape) {
        this.tape = tape;
    }

    static Reference unpack(byte[] tape) {
        Reference reading = new Reference(tape);
        try {
            reading.zlib();
        } catch (Stop stop) {
            reading.outcome = stop.outcome;
        }
        return reading;
    }

    /** Reads the blocks of a row that need not have a right end, and puts the right end there. */
    static byte[] withRightEnd(byte[] tape) {
        Reference reading = new Reference(tape);
        try {
            reading.head();
            reading.blocks();
        } catch (Stop stop) {
            return tape;
        }
        int length = (reading.place + 7) / 8;
        int adler = Boxes.adler(reading.content());
        byte[] sum = Boxes.bytes(adler >> 24, adler >> 16, adler >> 8, adler);
        return Boxes.joined(java.util.Arrays.copyOf(tape, length), sum);
    }

    Outcome outcome() {
        return outcome;
    }

    byte[] content() {
        return java.util.Arrays.copyOf(out, written);
    }

    private void need(boolean condition) {
        if (!condition) {
            throw new Stop(Outcome.BROKEN);
        }
    }

    private void zlib() {
        head();
        blocks();
        place = (place + 7) / 8 * 8;
        int sum = 0;
        for (int i = 0; i < 4; i++) {
            sum = sum * 256 + number(8);
        }
        need(sum == Boxes.adler(content()));
        need(place == 8 * tape.length);
    }

    private void head() {
        int c = number(8);
        int f = number(8);
        need(c % 16 == 8);
        need(c / 16 <= 7);
        need((256 * c + f) % 31 == 0);
        need((f & 32) == 0);
    }

    private void blocks() {
        boolean last = false;
        while (!last) {
            last = number(1) == 1;
            switch (number(2)) {
                case 0:
                    stored();
                    break;
                case 1:
                    symbols(words(Bits.fixedLiterals()), words(Bits.fixedDistances()));
                    break;
                case 2:
                    told();
                    break;
                default:
                    throw new Stop(Outcome.BROKEN);
            }
        }
    }

    private void stored() {
        place = (place + 7) / 8 * 8;
        int n = number(16);
        need(n + number(16) == 65535);
        for (int i = 0; i < n; i++) {
            write(number(8));
        }
    }

    private void told() {
        int literals = number(5) + 257;
        int distances = number(5) + 1;
        int told = number(4) + 4;
        need(literals <= 286);
        need(distances <= 30);
        int[] lengthCodes = new int[19];
        for (int i = 0; i < told; i++) {
            lengthCodes[ORDER[i]] = number(3);
        }
        need(fill(lengthCodes) == 1);
        int[] both = lengths(words(lengthCodes), literals + distances);
        int[] first = java.util.Arrays.copyOf(both, literals);
        int[] second = java.util.Arrays.copyOfRange(both, literals, literals + distances);
        need(first[256] != 0);
        need(fill(first) == 1);
        int sum = java.util.Arrays.stream(second).sum();
        need(fill(second) == 1 || sum == 0 || sum == 1);
        symbols(words(first), words(second));
    }

    private int[] lengths(Map<String, Integer> words, int total) {
        int[] lengths = new int[total];
        int have = 0;
        while (have < total) {
            int symbol = symbol(words);
            int value = symbol;
            int times = 1;
            if (symbol == 16) {
                need(have > 0);
                value = lengths[have - 1];
                times = 3 + number(2);
            } else if (symbol == 17) {
                value = 0;
                times = 3 + number(3);
            } else if (symbol == 18) {
                value = 0;
                times = 11 + number(7);
            }
            for (int i = 0; i < times; i++) {
                need(have < total);
                lengths[have] = value;
                have++;
            }
        }
        return lengths;
    }

    private void symbols(Map<String, Integer> literals, Map<String, Integer> distances) {
        int symbol = symbol(literals);
        while (symbol != 256) {
            if (symbol < 256) {
                write(symbol);
            } else {
                need(symbol <= 285);
                int length = lengthOf(symbol);
                int far = symbol(distances);
                need(far <= 29);
                int distance = distanceOf(far);
                need(distance <= written);
                for (int i = 0; i < length; i++) {
                    write(written == Boxes.LIMIT ? 0 : out[written - distance]);
                }
            }
            symbol = symbol(literals);
        }
    }

    private int lengthOf(int symbol) {
        if (symbol == 285) {
            return 258;
        }
        int base = 3;
        for (int i = 257; i < symbol; i++) {
            base += 1 << moreForLength(i);
        }
        return base + number(moreForLength(symbol));
    }

    private static int moreForLength(int symbol) {
        return Math.max(0, (symbol - 261) / 4);
    }

    private int distanceOf(int symbol) {
        int base = 1;
        for (int i = 0; i < symbol; i++) {
            base += 1 << Math.max(0, i / 2 - 1);
        }
        return base + number(Math.max(0, symbol / 2 - 1));
    }

    private void write(int value) {
        if (written == Boxes.LIMIT) {
            throw new Stop(Outcome.TOO_MANY);
        }
        out[written] = (byte) value;
        written++;
    }

    private int number(int bits) {
        int number = 0;
        for (int i = 0; i < bits; i++) {
            need(place < 8 * tape.length);
            number |= (tape[place / 8] >> place % 8 & 1) << i;
            place++;
        }
        return number;
    }

    private int symbol(Map<String, Integer> words) {
        StringBuilder word = new StringBuilder();
        while (word.length() < 15) {
            word.append(number(1));
            Integer symbol = words.get(word.toString());
            if (symbol != null) {
                return symbol;
            }
        }
        throw new Stop(Outcome.BROKEN);
    }

    private static double fill(int[] lengths) {
        double fill = 0;
        for (int length : lengths) {
            fill += length == 0 ? 0 : 1.0 / (1 << length);
        }
        return fill;
    }

    private static Map<String, Integer> words(int[] lengths) {
        Map<String, Integer> words = new HashMap<>();
        int[] codes = Bits.codesOf(lengths);
        for (int i = 0; i < lengths.length; i++) {
            if (lengths[i] > 0) {
                String bits = Integer.toBinaryString(1 << lengths[i] | codes[i]);
                words.put(bits.substring(1), i);
            }
        }
        return words;
    }

    /** The tape WRITTEN, with every place of the window tried; there may be more bytes than a result has. */
    static byte[] pack(byte[] tape) {
        Bits bits = Bits.zlib().fixed(true);
        int place = 0;
        while (place < tape.length) {
            int best = 0;
            int far = 0;
            for (int distance = 1; distance <= Math.min(4096, place); distance++) {
                int length = alike(tape, place, distance);
                if (length > best) {
                    best = length;
                    far = distance;
                }
            }
            if (best >= 3) {
                copy(bits, best, far);
                place += best;
            } else {
                bits.literal(tape[place] & 255);
                place++;
            }
        }
        return zeroFilled(bits.literal(256), tape);
    }

    private static int alike(byte[] tape, int place, int distance) {
        int length = 0;
        while (length < 258 && place + length < tape.length
                && tape[place + length] == tape[place + length - distance]) {
            length++;
        }
        return length;
    }

    private static void copy(Bits bits, int length, int distance) {
        int symbol = 257;
        int base = 3;
        while (length != 258 && base + (1 << moreForLength(symbol)) <= length) {
            base += 1 << moreForLength(symbol);
            symbol++;
        }
        if (length == 258) {
            bits.literal(285);
        } else {
            bits.literal(symbol).number(length - base, moreForLength(symbol));
        }
        int far = 0;
        int nearest = 1;
        while (nearest + (1 << Math.max(0, far / 2 - 1)) <= distance) {
            nearest += 1 << Math.max(0, far / 2 - 1);
            far++;
        }
        bits.distance(far).number(distance - nearest, Math.max(0, far / 2 - 1));
    }

    private static byte[] zeroFilled(Bits bits, byte[] tape) {
        while (!bits.atByte()) {
            bits.bit(0);
        }
        return bits.endWithout(tape);
    }
}
