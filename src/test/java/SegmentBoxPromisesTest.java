/** Each promise of the document by hand: ordinary inputs, the edges that it names, and wrong inputs. */
public final class SegmentBoxPromisesTest {
    private static final int NEXT = 0;
    private static final int WINDOW = 1;
    private static final int UNREAD = 2;
    private static final int HELD = 3;
    private static final int BLOCKS = 4;
    private static final int END_KNOWN = 5;

    private static int checks = 0;
    private static int wrong = 0;

    public static void main(String[] args) {
        newObject();
        newObjectsShareNothing();
        openBeginsAnew();
        openAtTheGreatestNumber();
        segmentInOrder();
        segmentLengths();
        segmentBytesAreLowestFirst();
        segmentOutOfOrder();
        segmentTwiceAndOverlapping();
        segmentAtTheWindow();
        segmentWithoutWindow();
        segmentFarAway();
        segmentOverTheGreatestNumber();
        segmentAtTheEnd();
        segmentOfWrongLength();
        endOnce();
        endAtTheWindow();
        endAndHeldBytes();
        endOverTheGreatestNumber();
        readAnswers();
        readGivesRoom();
        toldOfWrongThings();
        blocksNearestFirst();
        blocksGrowTogether();
        blocksOverTheGreatestNumber();
        blocksAsManyAsCanBe();
        blocksThatAreNot();
        heldBytes();
        longRun();
        System.out.println((checks - wrong) + " answers as due, " + wrong + " not");
        if (wrong != 0) {
            System.exit(1);
        }
    }

    // ---- Promise 1

    private static void newObject() {
        SegmentBox box = new SegmentBox();
        state("new object", box, 0, 0, 0, 0, 0);
        due("new object: held(0)", box.held(0), false);
        due("new object: held(1)", box.held(1), false);
        noBlock("new object", box, 0);
        due("new object: read()", box.read(), -1);
        due("new object: takes byte 0", box.segment(0, 65, 1), 1);
        due("new object: its byte", box.read(), 65);
    }

    private static void newObjectsShareNothing() {
        SegmentBox one = new SegmentBox();
        SegmentBox two = new SegmentBox();
        one.segment(0, 0x0201, 2);
        two.segment(0, 0x0403, 2);
        one.end(2);
        due("two objects: first of one", one.read(), 1);
        due("two objects: first of two", two.read(), 3);
        due("two objects: END of two", two.told(END_KNOWN), 0);
    }

    // ---- Promise 2

    private static void openBeginsAnew() {
        SegmentBox box = new SegmentBox();
        box.segment(0, 0x0807060504030201L, 8);
        box.segment(20, 9, 1);
        box.end(30);
        state("before open", box, 8, 8, 1, 1, 1);
        box.open(100);
        state("open(100)", box, 100, 0, 0, 0, 0);
        due("open: held(20)", box.held(20), false);
        due("open: held(112), as far on as the old HELD byte", box.held(112), false);
        due("open: read()", box.read(), -1);
        due("open: a byte at the old END", box.segment(122, 1, 1), 0);
        due("open: HELD", box.told(HELD), 1);
        due("open: END anew", box.end(140), true);
        box.open(140);
        state("open at the old END", box, 140, 0, 0, 0, 0);
        due("open at the old END: read()", box.read(), -1);
        box.open(0);
        due("open: bytes taken before come anew", box.segment(0, 0x4142, 2), 2);
        due("open: new first byte", box.read(), 0x42);
        due("open: new second byte", box.read(), 0x41);
    }

    private static void openAtTheGreatestNumber() {
        SegmentBox box = new SegmentBox();
        box.open(Integer.MAX_VALUE);
        state("open(MAX)", box, Integer.MAX_VALUE, 0, 0, 0, 0);
        due("open(MAX): one byte", box.segment(Integer.MAX_VALUE, 5, 1), 1);
        due("open(MAX): NEXT", box.told(NEXT), Integer.MIN_VALUE);
        box.open(Integer.MIN_VALUE);
        state("open(MIN)", box, Integer.MIN_VALUE, 0, 0, 0, 0);
    }

    // ---- Promise 3

    private static void segmentInOrder() {
        SegmentBox box = new SegmentBox();
        due("in order: first", box.segment(0, 0x030201, 3), 3);
        due("in order: second", box.segment(3, 0x0504, 2), 2);
        state("in order", box, 5, 5, 0, 0, 0);
        for (int want = 1; want <= 5; want++) {
            due("in order: read()", box.read(), want);
        }
    }

    private static void segmentLengths() {
        for (int m = 0; m <= 8; m++) {
            SegmentBox box = new SegmentBox();
            due("length " + m, box.segment(0, -1L, m), m);
            state("length " + m, box, m, m, 0, 0, 0);
        }
        SegmentBox box = new SegmentBox();
        due("length 0 further on", box.segment(5, -1L, 0), 0);
        state("length 0 further on", box, 0, 0, 0, 0, 0);
    }

    private static void segmentBytesAreLowestFirst() {
        SegmentBox box = new SegmentBox();
        box.segment(0, 0xFF7F80FE01000A90L, 8);
        int[] want = {0x90, 0x0A, 0x00, 0x01, 0xFE, 0x80, 0x7F, 0xFF};
        for (int i = 0; i < want.length; i++) {
            due("byte " + i + " of v", box.read(), want[i]);
        }
    }

    private static void segmentOutOfOrder() {
        SegmentBox box = new SegmentBox();
        due("out of order: third", box.segment(4, 0x0605, 2), 0);
        due("out of order: second", box.segment(2, 0x0403, 2), 0);
        state("out of order", box, 0, 0, 4, 1, 0);
        due("out of order: HELD bytes are not read", box.read(), -1);
        due("out of order: first", box.segment(0, 0x0201, 2), 6);
        state("all in order", box, 6, 6, 0, 0, 0);
        for (int want = 1; want <= 6; want++) {
            due("out of order: read()", box.read(), want);
        }
    }

    private static void segmentTwiceAndOverlapping() {
        SegmentBox box = new SegmentBox();
        box.segment(0, 0x0201, 2);
        due("twice while UNREAD", box.segment(0, 0x2221, 2), 0);
        box.read();
        box.read();
        due("twice after it was read", box.segment(0, 0x2221, 2), 0);
        state("twice", box, 2, 0, 0, 0, 0);
        box.segment(4, 0x0605, 2);
        due("twice while HELD", box.segment(4, 0x2625, 2), 0);
        state("twice while HELD", box, 2, 0, 2, 1, 0);
        due("overlapping", box.segment(0, 0x3837363534333231L, 8), 6);
        state("overlapping", box, 8, 6, 0, 0, 0);
        int[] want = {0x33, 0x34, 0x05, 0x06, 0x37, 0x38, -1};
        for (int i = 0; i < want.length; i++) {
            due("overlapping: read " + i, box.read(), want[i]);
        }
    }

    private static void segmentAtTheWindow() {
        SegmentBox box = new SegmentBox();
        due("just outside", box.segment(64, 1, 1), 0);
        due("just outside: HELD", box.told(HELD), 0);
        due("half outside", box.segment(62, -1L, 4), 0);
        due("half outside: HELD", box.told(HELD), 2);
        due("half outside: held(63)", box.held(63), true);
        due("half outside: held(64)", box.held(64), false);
        box.open(0);
        box.segment(0, 0, 8);
        due("8 UNREAD: WINDOW", box.told(WINDOW), 56);
        box.segment(63, 1, 2);
        due("8 UNREAD: last byte", box.held(63), true);
        due("8 UNREAD: behind the last", box.held(64), false);
        box.read();
        due("one read: WINDOW", box.told(WINDOW), 57);
        due("reading takes nothing", box.held(64), false);
        box.segment(64, 1, 2);
        due("one read: one more byte", box.held(64), true);
        due("one read: not two more", box.held(65), false);
    }

    private static void segmentWithoutWindow() {
        SegmentBox box = new SegmentBox();
        for (int i = 7; i >= 1; i--) {
            due("from behind", box.segment(8 * i, i, 8), 0);
        }
        state("56 HELD", box, 0, 0, 56, 1, 0);
        due("all at once", box.segment(0, 9, 8), 64);
        state("full", box, 64, 64, 0, 0, 0);
        due("full: takes none", box.segment(64, 7, 1), 0);
        due("full: takes none behind", box.segment(65, 7, 1), 0);
        state("full still", box, 64, 64, 0, 0, 0);
        due("full: first byte", box.read(), 9);
        due("one read: takes one of eight", box.segment(64, 0x77, 8), 1);
        state("full again", box, 65, 64, 0, 0, 0);
        for (int i = 1; i < 64; i++) {
            due("full: byte " + i, box.read(), i % 8 == 0 ? i / 8 : 0);
        }
        due("full: last byte", box.read(), 0x77);
        due("full: then none", box.read(), -1);
    }

    private static void segmentFarAway() {
        SegmentBox box = new SegmentBox();
        int[] far = {-1, -8, 1000, Integer.MAX_VALUE, Integer.MIN_VALUE, Integer.MIN_VALUE + 63, 1 << 30};
        for (int n : far) {
            box.open(0);
            due("far away " + n, box.segment(n, -1L, 1), 0);
            state("far away " + n, box, 0, 0, 0, 0, 0);
        }
        due("old bytes and new ones", box.segment(-3, 0x0807060504030201L, 8), 5);
        due("old bytes and new ones: first", box.read(), 4);
    }

    private static void segmentOverTheGreatestNumber() {
        SegmentBox box = new SegmentBox();
        box.open(Integer.MAX_VALUE - 3);
        due("over the greatest: HELD", box.segment(Integer.MAX_VALUE, 0x0807060504L, 5), 0);
        state("over the greatest", box, Integer.MAX_VALUE - 3, 0, 5, 1, 0);
        due("over the greatest: held(MIN)", box.held(Integer.MIN_VALUE), true);
        due("over the greatest: filled", box.segment(Integer.MAX_VALUE - 3, 0x030201, 3), 8);
        due("over the greatest: NEXT", box.told(NEXT), Integer.MIN_VALUE + 4);
        for (int want = 1; want <= 8; want++) {
            due("over the greatest: read()", box.read(), want);
        }
        box.open(Integer.MAX_VALUE);
        box.segment(Integer.MIN_VALUE + 62, -1L, 2);
        due("last of the WINDOW over the greatest", box.held(Integer.MIN_VALUE + 62), true);
        due("behind the WINDOW over the greatest", box.held(Integer.MIN_VALUE + 63), false);
        box.open(-2);
        due("from -2 to 1", box.segment(-2, 0x04030201, 4), 4);
        due("from -2 to 1: NEXT", box.told(NEXT), 2);
    }

    private static void segmentAtTheEnd() {
        SegmentBox box = new SegmentBox();
        box.end(10);
        due("behind the END", box.segment(11, -1L, 3), 0);
        due("at the END", box.segment(10, -1L, 1), 0);
        due("behind the END: HELD", box.told(HELD), 0);
        due("over the END", box.segment(8, 0x04030201, 4), 0);
        due("over the END: HELD", box.told(HELD), 2);
        due("up to the END", box.segment(0, 0, 8), 10);
        due("at the END which is NEXT", box.segment(10, 1, 1), 0);
        state("at the END", box, 10, 10, 0, 0, 1);
    }

    private static void segmentOfWrongLength() {
        SegmentBox box = new SegmentBox();
        box.segment(2, 3, 1);
        int[] lengths = {-1, 9, 10, 64, Integer.MAX_VALUE, Integer.MIN_VALUE};
        for (int m : lengths) {
            badSegment(box, 0, m);
            badSegment(box, 1000, m);
        }
        state("wrong lengths change nothing", box, 0, 0, 1, 1, 0);
    }

    // ---- Promise 4

    private static void endOnce() {
        SegmentBox box = new SegmentBox();
        due("END", box.end(3), true);
        due("END again", box.end(3), false);
        due("END elsewhere", box.end(4), false);
        due("END is known", box.told(END_KNOWN), 1);
        box.segment(0, 0x030201, 3);
        due("END again when all came", box.end(3), false);
        box.open(0);
        due("END at NEXT", box.end(0), true);
        due("END at NEXT: no byte", box.segment(0, 1, 1), 0);
        box.open(0);
        box.segment(0, 0, 4);
        due("END before NEXT", box.end(3), false);
        due("END far before NEXT", box.end(Integer.MIN_VALUE), false);
        due("END far behind NEXT", box.end(Integer.MAX_VALUE), false);
        due("END is not known", box.told(END_KNOWN), 0);
        due("END at NEXT with UNREAD bytes", box.end(4), true);
    }

    private static void endAtTheWindow() {
        SegmentBox box = new SegmentBox();
        due("END behind the WINDOW", box.end(65), false);
        due("END just behind the last byte", box.end(64), true);
        due("END at 64: last byte", box.segment(63, -1L, 2), 0);
        due("END at 64: HELD", box.told(HELD), 1);
        box.open(0);
        box.segment(0, 0, 8);
        box.read();
        due("END behind a smaller WINDOW", box.end(66), false);
        due("END at a smaller WINDOW", box.end(65), true);
        fill(box);
        due("no WINDOW: END one further on", box.end(65), false);
        due("no WINDOW: END one before", box.end(63), false);
        due("no WINDOW: END at NEXT", box.end(64), true);
    }

    private static void endAndHeldBytes() {
        SegmentBox box = new SegmentBox();
        box.segment(10, 0, 2);
        due("END at NEXT, a byte behind it", box.end(0), false);
        due("END at a HELD byte", box.end(10), false);
        due("END at the last HELD byte", box.end(11), false);
        due("END behind the HELD bytes", box.end(12), true);
        box.open(0);
        box.segment(63, 0, 1);
        due("END at the last byte of the WINDOW", box.end(63), false);
        due("END behind the last byte of the WINDOW", box.end(64), true);
        box.open(0);
        box.segment(2, 0, 1);
        due("END behind the WINDOW with a HELD byte", box.end(64), true);
    }

    private static void endOverTheGreatestNumber() {
        SegmentBox box = new SegmentBox();
        box.open(Integer.MAX_VALUE - 1);
        due("END too far over the greatest", box.end(Integer.MIN_VALUE + 63), false);
        box.segment(Integer.MIN_VALUE, 0, 1);
        due("END before a byte over the greatest", box.end(Integer.MAX_VALUE), false);
        due("END over the greatest", box.end(Integer.MIN_VALUE + 2), true);
        due("bytes up to an END over the greatest", box.segment(Integer.MAX_VALUE - 1, 1, 8), 4);
        due("NEXT at an END over the greatest", box.told(NEXT), Integer.MIN_VALUE + 2);
        box.open(Integer.MAX_VALUE - 1);
        due("END at the WINDOW over the greatest", box.end(Integer.MIN_VALUE + 62), true);
    }

    // ---- Promise 5

    private static void readAnswers() {
        SegmentBox box = new SegmentBox();
        due("read nothing", box.read(), -1);
        due("read nothing again", box.read(), -1);
        box.segment(0, 0xFF00, 2);
        box.end(3);
        due("read 0", box.read(), 0);
        due("read 255", box.read(), 255);
        due("read before the END", box.read(), -1);
        box.segment(2, 0x80, 1);
        due("read the last byte", box.read(), 0x80);
        due("read at the END", box.read(), -2);
        due("read at the END again", box.read(), -2);
        state("read at the END", box, 3, 0, 0, 0, 1);
        box.open(0);
        due("NEXT 0 is not an END of 0", box.read(), -1);
        box.end(0);
        due("an END of 0", box.read(), -2);
    }

    private static void readGivesRoom() {
        SegmentBox box = new SegmentBox();
        box.segment(0, 0x0201, 2);
        state("before a read", box, 2, 2, 0, 0, 0);
        box.read();
        state("after a read", box, 2, 1, 0, 0, 0);
        box.read();
        box.read();
        state("after all reads", box, 2, 0, 0, 0, 0);
    }

    // ---- Promise 6 (each other check of a state asks it too)

    private static void toldOfWrongThings() {
        SegmentBox box = new SegmentBox();
        int[] others = {-1, 6, 7, 100, Integer.MAX_VALUE, Integer.MIN_VALUE};
        for (int what : others) {
            boolean thrown = false;
            try {
                box.told(what);
            } catch (IllegalArgumentException e) {
                thrown = true;
            }
            due("told(" + what + ") throws", thrown, true);
        }
        state("told of wrong things", box, 0, 0, 0, 0, 0);
    }

    // ---- Promise 7

    private static void blocksNearestFirst() {
        SegmentBox box = new SegmentBox();
        box.segment(40, 0, 5);
        box.segment(2, 0, 1);
        box.segment(20, 0, 8);
        due("three blocks", box.told(BLOCKS), 3);
        block("nearest", box, 0, 2, 1);
        block("middle", box, 1, 20, 8);
        block("furthest", box, 2, 40, 5);
        noBlock("three blocks", box, 3);
        box.segment(0, 0, 2);
        due("nearest block has gone", box.told(BLOCKS), 2);
        block("nearest then", box, 0, 20, 8);
        noBlock("two blocks", box, 2);
    }

    private static void blocksGrowTogether() {
        SegmentBox box = new SegmentBox();
        box.segment(10, 0, 2);
        box.segment(13, 0, 2);
        due("a byte between", box.told(BLOCKS), 2);
        box.segment(12, 0, 1);
        due("grown together", box.told(BLOCKS), 1);
        block("grown together", box, 0, 10, 5);
        box.segment(8, 0, 8);
        block("overlapped", box, 0, 8, 8);
        for (int n = 16; n < 64; n += 8) {
            box.segment(n, 0, 8);
        }
        box.segment(1, 0, 7);
        block("as long as can be", box, 0, 1, 63);
    }

    private static void blocksOverTheGreatestNumber() {
        SegmentBox box = new SegmentBox();
        box.open(Integer.MAX_VALUE - 5);
        box.segment(Integer.MIN_VALUE + 20, 0, 2);
        box.segment(Integer.MAX_VALUE - 1, 0, 4);
        due("over the greatest: blocks", box.told(BLOCKS), 2);
        block("over the greatest", box, 0, Integer.MAX_VALUE - 1, 4);
        block("behind the greatest", box, 1, Integer.MIN_VALUE + 20, 2);
    }

    private static void blocksAsManyAsCanBe() {
        SegmentBox box = new SegmentBox();
        for (int n = 63; n > 0; n -= 2) {
            box.segment(n, n, 1);
        }
        state("every other byte", box, 0, 0, 32, 32, 0);
        for (int i = 0; i < 32; i++) {
            block("every other byte", box, i, 2 * i + 1, 1);
        }
        noBlock("every other byte", box, 32);
    }

    private static void blocksThatAreNot() {
        SegmentBox box = new SegmentBox();
        box.segment(0, 0, 4);
        noBlock("UNREAD bytes are no block", box, 0);
        box.segment(6, 0, 1);
        int[] others = {-1, 1, 2, 63, 64, Integer.MAX_VALUE, Integer.MIN_VALUE};
        for (int i : others) {
            noBlock("one block", box, i);
        }
        block("one block", box, 0, 6, 1);
    }

    // ---- Promise 8

    private static void heldBytes() {
        SegmentBox box = new SegmentBox();
        box.segment(0, 0, 2);
        box.segment(5, 0, 2);
        int[] free = {-1, 0, 1, 2, 3, 4, 7, 66, 69, 70, 5 + 128, 5 - 64, Integer.MAX_VALUE, Integer.MIN_VALUE,
            Integer.MIN_VALUE + 5};
        for (int n : free) {
            due("held(" + n + ")", box.held(n), false);
        }
        due("held(5)", box.held(5), true);
        due("held(6)", box.held(6), true);
        box.segment(2, 0, 3);
        due("UNREAD is not HELD", box.held(5), false);
        due("NEXT is not HELD", box.held(7), false);
    }

    // ---- What it is: an object is used for up to 512 calls

    private static void longRun() {
        SegmentBox box = new SegmentBox();
        box.open(Integer.MAX_VALUE - 100);
        for (int i = 0; i < 255; i++) {
            due("long run: segment", box.segment(Integer.MAX_VALUE - 100 + i, i, 1), 1);
            due("long run: read", box.read(), i);
        }
        due("long run: NEXT", box.told(NEXT), Integer.MAX_VALUE - 100 + 255);
    }

    // ---- Helpers

    private static void fill(SegmentBox box) {
        box.open(0);
        for (int n = 0; n < 64; n += 8) {
            box.segment(n, 0, 8);
        }
        due("filled: WINDOW", box.told(WINDOW), 0);
    }

    private static void state(String where, SegmentBox box, int next, int unread, int held, int blocks, int end) {
        due(where + ": NEXT", box.told(NEXT), next);
        due(where + ": WINDOW", box.told(WINDOW), 64 - unread);
        due(where + ": UNREAD", box.told(UNREAD), unread);
        due(where + ": HELD", box.told(HELD), held);
        due(where + ": BLOCKS", box.told(BLOCKS), blocks);
        due(where + ": END known", box.told(END_KNOWN), end);
    }

    private static void block(String where, SegmentBox box, int i, int first, int many) {
        due(where + ": first of block " + i, box.block(i, false), first);
        due(where + ": length of block " + i, box.block(i, true), many);
    }

    private static void noBlock(String where, SegmentBox box, int i) {
        due(where + ": block(" + i + ", false) throws", blockThrows(box, i, false), true);
        due(where + ": block(" + i + ", true) throws", blockThrows(box, i, true), true);
    }

    private static boolean blockThrows(SegmentBox box, int i, boolean many) {
        try {
            box.block(i, many);
        } catch (IndexOutOfBoundsException e) {
            return true;
        }
        return false;
    }

    private static void badSegment(SegmentBox box, int n, int m) {
        boolean thrown = false;
        try {
            box.segment(n, -1L, m);
        } catch (IllegalArgumentException e) {
            thrown = true;
        }
        due("segment of " + m + " throws", thrown, true);
    }

    private static void due(String what, boolean got, boolean want) {
        due(what, got ? 1 : 0, want ? 1 : 0);
    }

    private static void due(String what, int got, int want) {
        checks++;
        if (got != want) {
            wrong++;
            System.out.println(what + " answered " + got + ", due is " + want);
        }
    }
}
