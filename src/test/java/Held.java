import java.util.Arrays;

/** A box beside what its tape and its result have to be: answers, refusals and the state behind them are looked at. */
final class Held {
    static final int MOST_CALLS = 512;
    private static final int ALL_WORDS_UP_TO = 48;

    private final String name;
    private final ZlibBox box = new ZlibBox();
    private byte[] tape = new byte[0];
    private byte[] result = new byte[0];
    private int calls;

    Held(String name) {
        this.name = name;
    }

    /** The result is this row, and the tape is empty. */
    static Held unpacked(String name, byte[] row) {
        Held x = new Held(name);
        x.tape(Boxes.shortest(row));
        x.unpack(row);
        return x;
    }

    /** The tape and the result are both this row. */
    static Held holding(String name, byte[] row) {
        Held x = unpacked(name, row);
        x.again();
        return x;
    }

    byte[] tape() {
        return tape.clone();
    }

    byte[] result() {
        return result.clone();
    }

    int callsLeft() {
        return MOST_CALLS - calls;
    }

    /** What later calls answer is free, so a test that needs them would show nothing. */
    private ZlibBox called() {
        calls++;
        if (calls > MOST_CALLS) {
            throw new IllegalStateException(name + ": too many calls for one object");
        }
        return box;
    }

    private void due(String call, long got, long want) {
        Check.due(name + ": " + call, got, want);
    }

    private void refused(String call, Class<? extends RuntimeException> exception, Check.Call refused) {
        Check.throwsDue(name + ": " + call, exception, refused);
        stateDue();
    }

    /** All that is shown by calls that change nothing. */
    Held stateDue() {
        due("count(0)", called().count(0), tape.length);
        due("adler()", called().adler(), Boxes.adler(tape));
        due("count(1)", called().count(1), result.length);
        for (int i : placesShown()) {
            if (i >= 0 && i < result.length) {
                word(i);
            } else {
                Check.throwsDue(name + ": word(" + i + ")", IndexOutOfBoundsException.class, () -> called().word(i));
            }
        }
        return this;
    }

    private int[] placesShown() {
        int length = result.length;
        if (length > ALL_WORDS_UP_TO) {
            return new int[] {-1, 0, length / 3, 2 * length / 3, length - 8, length - 1, length};
        }
        int[] places = new int[2 + (length + 7) / 8];
        for (int i = 0; i < places.length; i++) {
            places[i] = Math.min(8 * i, length);
        }
        places[places.length - 1] = -1;
        return places;
    }

    Held tape(byte[] row) {
        end(0);
        int odd = row.length % 20;
        if (odd > 0) {
            feed(Arrays.copyOf(row, 20));
            end(odd);
        }
        for (int i = odd; i < row.length; i += 20) {
            feed(Arrays.copyOfRange(row, i, i + 20));
        }
        return this;
    }

    Held feed(byte[] twenty) {
        java.nio.ByteBuffer ints = java.nio.ByteBuffer.wrap(twenty);
        return feed(ints.getInt(), ints.getInt(), ints.getInt(), ints.getInt(), ints.getInt());
    }

    Held feed(int a, int b, int c, int d, int e) {
        java.nio.ByteBuffer more = java.nio.ByteBuffer.allocate(20);
        more.putInt(a).putInt(b).putInt(c).putInt(d).putInt(e);
        tape = Boxes.joined(tape, more.array());
        due("feed", called().feed(a, b, c, d, e), tape.length);
        return this;
    }

    Held feedRefused(int a, int b, int c, int d, int e) {
        refused("feed at " + tape.length, IndexOutOfBoundsException.class, () -> called().feed(a, b, c, d, e));
        return this;
    }

    Held end(int n) {
        tape = Arrays.copyOf(tape, n);
        due("end(" + n + ")", called().end(n), n);
        return this;
    }

    Held endRefused(int n) {
        refused("end(" + n + ") of " + tape.length, IllegalArgumentException.class, () -> called().end(n));
        return this;
    }

    Held again() {
        tape = result.clone();
        due("again()", called().again(), result.length);
        return this;
    }

    Held unpack(byte[] content) {
        tape = new byte[0];
        result = content.clone();
        long got;
        try {
            got = called().unpack();
        } catch (UnsupportedOperationException e) {
            got = -1;
        } catch (IndexOutOfBoundsException e) {
            got = -2;
        }
        due("unpack() (-1 broken, -2 too many)", got, content.length);
        return this;
    }

    Held unpackBroken() {
        tape = new byte[0];
        refused("unpack()", UnsupportedOperationException.class, () -> called().unpack());
        return this;
    }

    Held unpackTooMany() {
        tape = new byte[0];
        refused("unpack()", IndexOutOfBoundsException.class, () -> called().unpack());
        return this;
    }

    Held pack() {
        return pack(Reference.pack(tape));
    }

    Held pack(byte[] want) {
        result = want.clone();
        due("pack()", called().pack(), result.length);
        return this;
    }

    Held packRefused() {
        refused("pack()", IndexOutOfBoundsException.class, () -> called().pack());
        return this;
    }

    Held adler() {
        due("adler()", called().adler(), Boxes.adler(tape));
        return this;
    }

    Held word(int i) {
        due("word(" + i + ")", called().word(i), Boxes.wordAt(result, i));
        return this;
    }

    Held wordRefused(int i) {
        refused("word(" + i + ") of " + result.length, IndexOutOfBoundsException.class, () -> called().word(i));
        return this;
    }

    Held count(int what) {
        due("count(" + what + ")", called().count(what), what == 0 ? tape.length : result.length);
        return this;
    }

    Held countRefused(int what) {
        refused("count(" + what + ")", IllegalArgumentException.class, () -> called().count(what));
        return this;
    }
}
