/** Rows of bytes that several tests need. */
final class Rows {
    private Rows() {
    }

    /** Neighbours differ, no byte is 0, and a short tape gives the whole of it. */
    static byte[] pattern(int length) {
        byte[] row = new byte[length];
        for (int i = 0; i < length; i++) {
            row[i] = (byte) (i * 7 % 251 + 1 + i / 4096);
        }
        return row;
    }

    /** A row without any three bytes twice; its values are 128 .. 255. */
    static byte[] withoutCopies(int length) {
        byte[] row = new byte[length];
        boolean[] used = new boolean[1 << 21];
        for (int i = 0; i < length; i++) {
            int value = (i * 37) & 127;
            if (i >= 2) {
                int pair = (row[i - 2] & 127) << 14 | (row[i - 1] & 127) << 7;
                while (used[pair | value]) {
                    value = value + 1 & 127;
                }
                used[pair | value] = true;
            }
            row[i] = (byte) (128 + value);
        }
        return row;
    }

    /**
     * 32 values in an order that has no three bytes twice: every byte takes 9 bits. From the two
     * lowest on, always the highest value that is new makes each three of the 32768 once.
     */
    static byte[] incompressible(int length) {
        byte[] row = new byte[length];
        boolean[] used = new boolean[1 << 15];
        for (int i = 0; i < length; i++) {
            row[i] = (byte) 224;
            if (i >= 2) {
                int pair = (row[i - 2] & 31) << 10 | (row[i - 1] & 31) << 5;
                int value = 31;
                while (used[pair | value]) {
                    value--;
                }
                used[pair | value] = true;
                row[i] = (byte) (224 + value);
            }
        }
        return row;
    }
}
