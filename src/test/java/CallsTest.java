import java.util.Random;

/** All promises: "A call that throws changes nothing, but as said.", and 512 calls of one object. */
public final class CallsTest {
    public static void main(String[] args) {
        refusedCallsChangeNothing();
        refusedCallsAreNotRemembered();
        theLastCallIsAsRightAsTheFirst();
        oneKindOfCallToTheLast();
        dearCallsToTheLast();
        refusalsToTheLast();
        randomCalls();
        Check.finish();
    }

    /** Every call that can throw, in every state that it can throw in: both empty, both there, both full. */
    private static void refusedCallsChangeNothing() {
        refuseAll(new Held("both are empty"), false);
        refuseAll(new Held("a tape alone").feed(1, 2, 3, 4, 5), false);
        refuseAll(new Held("a result alone").pack(), false);
        refuseAll(new Held("both").pack().feed(-1, -2, -3, -4, -5), false);
        refuseAll(Held.holding("both are full", Rows.pattern(Boxes.LIMIT)), true);
    }

    private static void refuseAll(Held x, boolean full) {
        int tape = x.tape().length;
        int result = x.result().length;
        x.endRefused(-1).endRefused(tape + 1).wordRefused(-1).wordRefused(result).countRefused(-1).countRefused(2);
        if (full) {
            x.feedRefused(-1, -1, -1, -1, -1);
        }
        byte[] before = x.tape();
        x.pack().again().unpack(before).again().stateDue();
        x.unpackBroken();
        x.again().stateDue();
    }

    /** A refused call between two others, which answer as they would without it. */
    private static void refusedCallsAreNotRemembered() {
        Held x = new Held("refused calls between").feed(1, 2, 3, 4, 5).endRefused(21).feed(6, 7, 8, 9, 10).endRefused(-1).end(33);
        x.wordRefused(0).pack().wordRefused(-1).countRefused(7).pack().again().feed(0, 0, 0, 0, 0).unpackBroken();
        x.again().endRefused(1000);
        byte[] packed = x.result();
        x.unpack(Reference.unpack(packed).content()).wordRefused(33).stateDue();
    }

    /** 511 calls of all kinds, and then each of the eight as the last. */
    private static void theLastCallIsAsRightAsTheFirst() {
        for (int last = 0; last < 8; last++) {
            Held x = new Held("call 512, kind " + last);
            for (int i = 0; i < 63; i++) {
                x.end(0).feed(i, -i, i * 77777, 4, 5).end(20 - i % 10).adler().pack().count(i % 2).word(i % 8).again();
            }
            while (x.callsLeft() > 1) {
                x.adler();
            }
            callOfKind(x, last);
            Check.due("calls left", x.callsLeft(), 0);
        }
    }

    /** The same call again and again; a tape can be unpacked but once, so that others come between there. */
    private static void oneKindOfCallToTheLast() {
        for (int kind : new int[] {0, 1, 2, 4, 5, 6, 7}) {
            Held x = new Held("kind " + kind + " to the last call").pack().again();
            while (x.callsLeft() > 0) {
                callOfKind(x, kind);
            }
        }
        Held x = new Held("unpack to the last call");
        while (x.callsLeft() >= 3) {
            x.pack().again().unpack(new byte[0]);
        }
        ZlibBox y = new ZlibBox();
        for (int i = 1; i <= Held.MOST_CALLS; i++) {
            Check.throwsDue("unpack() of nothing, call " + i, UnsupportedOperationException.class, y::unpack);
        }
    }

    private static void callOfKind(Held x, int kind) {
        switch (kind) {
            case 0:
                x.feed(1, 2, 3, 4, 5);
                break;
            case 1:
                x.end(3);
                break;
            case 2:
                x.again();
                break;
            case 3:
                x.unpack(Reference.unpack(x.tape()).content());
                break;
            case 4:
                x.pack();
                break;
            case 5:
                x.adler();
                break;
            case 6:
                x.word(7);
                break;
            default:
                x.count(1);
                break;
        }
    }

    /** The dearest calls, again and again: no call may use up what a later one needs. */
    private static void dearCallsToTheLast() {
        byte[] row = Rows.pattern(Boxes.LIMIT);
        Held x = Held.holding("a full tape to the last call", row);
        while (x.callsLeft() >= 5) {
            x.pack().again().unpack(row).again().adler();
        }
    }

    private static void refusalsToTheLast() {
        byte[] tooMany = Bits.zlib().fixed(true).run(65, Boxes.LIMIT + 1).end(new byte[0]);
        Held x = new Held("refusals to the last call").pack();
        while (x.callsLeft() > 60) {
            x.tape(tooMany).unpackTooMany().feed(1, 2, 3, 4, 5).unpackBroken();
        }
        while (x.callsLeft() > 20) {
            x.countRefused(5);
        }
        x.again().unpack(new byte[0]).stateDue();
    }

    /** Calls of all kinds in any order, with arguments at and beside the edges, to the last one. */
    private static void randomCalls() {
        Random random = new Random(9);
        for (int run = 0; run < 60; run++) {
            Held x = new Held("random calls, run " + run);
            if (run % 3 == 0) {
                x = Held.holding("random calls on a long tape, run " + run, Rows.pattern(Boxes.LIMIT - random.nextInt(50)));
            }
            while (x.callsLeft() > 40) {
                randomCall(x, random);
            }
            x.stateDue();
        }
    }

    private static void randomCall(Held x, Random random) {
        int tape = x.tape().length;
        int result = x.result().length;
        switch (random.nextInt(10)) {
            case 0:
            case 1:
                randomFeed(x, random);
                break;
            case 2:
                randomEnd(x, tape, near(random, tape));
                break;
            case 3:
                x.again();
                break;
            case 4:
            case 5:
                randomUnpack(x);
                break;
            case 6:
                randomPack(x);
                break;
            case 7:
                x.adler();
                break;
            case 8:
                randomWord(x, result, near(random, result));
                break;
            default:
                randomCount(x, random.nextInt(5) - 1);
                break;
        }
    }

    /** A number at or beside 0, at or beside the length, or between. */
    private static int near(Random random, int length) {
        switch (random.nextInt(4)) {
            case 0:
                return random.nextInt(3) - 1;
            case 1:
                return random.nextInt(length + 1);
            default:
                return length - 2 + random.nextInt(4);
        }
    }

    private static void randomFeed(Held x, Random random) {
        int a = random.nextInt();
        int b = random.nextInt(4);
        if (x.tape().length + 20 > Boxes.LIMIT) {
            x.feedRefused(a, b, b, b, a);
        } else {
            x.feed(a, b, b, b, a);
        }
    }

    private static void randomEnd(Held x, int length, int n) {
        if (n < 0 || n > length) {
            x.endRefused(n);
        } else {
            x.end(n);
        }
    }

    private static void randomUnpack(Held x) {
        Reference want = Reference.unpack(x.tape());
        switch (want.outcome()) {
            case GOOD:
                x.unpack(want.content());
                break;
            case BROKEN:
                x.unpackBroken();
                break;
            default:
                x.unpackTooMany();
                break;
        }
    }

    private static void randomPack(Held x) {
        if (Reference.pack(x.tape()).length > Boxes.LIMIT) {
            x.packRefused();
        } else {
            x.pack();
        }
    }

    private static void randomWord(Held x, int length, int i) {
        if (i < 0 || i >= length) {
            x.wordRefused(i);
        } else {
            x.word(i);
        }
    }

    private static void randomCount(Held x, int what) {
        if (what < 0 || what > 1) {
            x.countRefused(what);
        } else {
            x.count(what);
        }
    }
}
