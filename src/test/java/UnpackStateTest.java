/** Promise 5: what unpack leaves of the tape and of the result, whether it gives something or throws. */
public final class UnpackStateTest {
    private static final byte[] ROW = Boxes.bytes(1, 2, 3, 4, 5, 6, 7, 8, 9, 10, 11, 12);

    public static void main(String[] args) {
        theTapeIsEmptyThen();
        theResultIsWhatItGives();
        theResultStaysBehindBroken();
        theResultStaysBehindTooMany();
        everyKindOfBlockBehindARefusal();
        Check.finish();
    }

    /** As many bytes as a result may have, and some more. */
    private static byte[] full(int more) {
        int length = Boxes.LIMIT + more;
        return Bits.zlib().fixed(true).run(65, length).end(Boxes.filled(length, 65));
    }

    /** Broken in the last byte alone, so that all of the row has been written before. */
    private static byte[] wrongSum(byte[] row) {
        byte[] tape = Bits.zlib().stored(true, row).endWithout(row);
        tape[tape.length - 1] ^= 1;
        return tape;
    }

    /** "The TAPE, which is empty then (also if this throws)". */
    private static void theTapeIsEmptyThen() {
        Held x = new Held("the tape behind unpack").tape(Reference.pack(ROW)).unpack(ROW).stateDue();
        x.endRefused(1).unpackBroken().feed(1, 2, 3, 4, 5).stateDue();
        x.tape(wrongSum(ROW)).unpackBroken().endRefused(1).unpackBroken().feed(-1, 2, 3, 4, 5).stateDue().pack().stateDue();
        x.tape(full(1)).unpackTooMany().endRefused(1).unpackBroken().feed(-5, 4, 3, 2, 1).stateDue().pack().stateDue();
    }

    /** "THE RESULT is what it gives": nothing, one byte, all that it can have, and each behind each. */
    private static void theResultIsWhatItGives() {
        byte[][] rows = {new byte[0], {7}, ROW, Boxes.filled(Boxes.LIMIT - 1, 65), Boxes.filled(Boxes.LIMIT, 65)};
        for (byte[] first : rows) {
            for (byte[] second : rows) {
                Held x = Held.unpacked(second.length + " behind " + first.length, first).stateDue();
                x.tape(Boxes.shortest(second)).unpack(second).stateDue().again().stateDue();
            }
        }
    }

    /** "THE RESULT stays then.", the empty and the full one too, however much was written before. */
    private static void theResultStaysBehindBroken() {
        for (int length : new int[] {0, 1, 12, 40, 16384}) {
            Held x = Held.unpacked("a result of " + length, Rows.pattern(length));
            x.tape(new byte[0]).unpackBroken();
            x.tape(wrongSum(new byte[0])).unpackBroken();
            x.tape(wrongSum(Boxes.filled(1, 9))).unpackBroken();
            x.tape(wrongSum(Boxes.filled(30, 9))).unpackBroken();
            x.tape(Bits.zlib().fixed(true).literal(1).longCopy(1).literal(286).end(ROW)).unpackBroken();
            x.tape(Bits.zlib().stored(false, ROW).number(7, 3).cut()).unpackBroken();
            x.again().stateDue();
        }
    }

    private static void theResultStaysBehindTooMany() {
        for (int length : new int[] {0, 1, 12, 40, 16384}) {
            Held x = Held.unpacked("a result of " + length, Rows.pattern(length));
            x.tape(full(1)).unpackTooMany().again().stateDue();
            x.tape(full(0)).unpack(Boxes.filled(Boxes.LIMIT, 65)).stateDue();
            x.tape(full(2)).unpackTooMany().again().stateDue();
        }
    }

    /** Nothing of a refused tape is left over: the codes told there, the bits held, the bytes written. */
    private static void everyKindOfBlockBehindARefusal() {
        int[] literals = new int[257];
        literals[7] = 1;
        literals[256] = 1;
        byte[] told = Bits.zlib().told(true, literals, new int[1]).literal(7).end(Boxes.bytes(7));
        byte[] cutTold = java.util.Arrays.copyOf(told, 30);
        byte[][] refused = {wrongSum(ROW), full(1), cutTold, Boxes.bytes(120), Bits.zlib().fixed(true).literal(3).cut()};
        for (int i = 0; i < refused.length; i++) {
            Held x = new Held("behind refused tape " + i).pack();
            refuse(x, refused[i], i == 1);
            x.tape(Bits.zlib().fixed(true).literal(9).copy(257, 0, 0, 0).end(Boxes.filled(4, 9))).unpack(Boxes.filled(4, 9)).stateDue();
            refuse(x, refused[i], i == 1);
            x.tape(told).unpack(Boxes.bytes(7)).stateDue();
            refuse(x, refused[i], i == 1);
            x.tape(Bits.zlib().stored(true, ROW).endWithout(ROW)).unpack(ROW).stateDue();
            refuse(x, refused[i], i == 1);
            x.tape(Bits.zlib().fixed(true).copy(257, 0, 0, 0).end(new byte[3])).unpackBroken();
        }
    }

    private static void refuse(Held x, byte[] tape, boolean tooMany) {
        if (tooMany) {
            x.tape(tape).unpackTooMany();
        } else {
            x.tape(tape).unpackBroken();
        }
    }
}
