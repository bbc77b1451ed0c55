/** The receiving side of a stream that comes in segments: in any order, twice, overlapping, or never. */
public final class SegmentBox {
    private static final int ROOM = 64;
    private static final int LONGEST_SEGMENT = 8;
    private static final int NOTHING_YET = -1;
    private static final int AT_END = -2;

    // UNREAD bytes and the WINDOW are ROOM numbers in a row, so each of them has a slot to itself.
    private final byte[] bytes;
    // Bit k stands for the byte k numbers further on than next; between calls bit 0 is clear.
    private long heldBits;
    private int next;
    private int unread;
    private boolean endKnown;
    private int endNumber;

    public SegmentBox() {
        bytes = new byte[ROOM];
        heldBits = 0L;
        next = 0;
        unread = 0;
        endKnown = false;
        endNumber = 0;
    }

    public void open(int n) {
        // The old bytes may stay: no slot is read before it is written anew.
        heldBits = 0L;
        next = n;
        unread = 0;
        endKnown = false;
        endNumber = 0;
    }

    public int segment(int n, long v, int m) throws IllegalArgumentException {
        if (m < 0 || m > LONGEST_SEGMENT) {
            throw new IllegalArgumentException();
        }
        for (int i = 0; i < m; i++) {
            takeByte(n + i, (byte) (v >>> (8 * i)));
        }
        return moveOn();
    }

    public boolean end(int n) {
        int ahead = n - next;
        if (endKnown || ahead < 0 || ahead > window() || isHeldFrom(ahead)) {
            return false;
        }
        endKnown = true;
        endNumber = n;
        return true;
    }

    public int read() {
        if (unread == 0) {
            return endKnown && next == endNumber ? AT_END : NOTHING_YET;
        }
        int value = bytes[slotOf(next - unread)] & 255;
        unread--;
        return value;
    }

    public int told(int what) throws IllegalArgumentException {
        switch (what) {
            case 0:
                return next;
            case 1:
                return window();
            case 2:
                return unread;
            case 3:
                return Long.bitCount(heldBits);
            case 4:
                return Long.bitCount(blockStarts());
            case 5:
                return endKnown ? 1 : 0;
            default:
                throw new IllegalArgumentException();
        }
    }

    public int block(int i, boolean many) throws IndexOutOfBoundsException {
        if (i < 0 || i >= Long.bitCount(blockStarts())) {
            throw new IndexOutOfBoundsException();
        }
        int ahead = startOfBlock(i);
        return many ? lengthOfBlock(ahead) : next + ahead;
    }

    public boolean held(int n) {
        return isHeldAhead(n - next);
    }

    private int window() {
        return ROOM - unread;
    }

    // The count of ints is a multiple of ROOM, so slots go on in a row past the greatest int too.
    private static int slotOf(int n) {
        return n & (ROOM - 1);
    }

    private void takeByte(int n, byte value) {
        int ahead = n - next;
        if (ahead >= 0 && ahead < window() && !isHeldAhead(ahead) && isBeforeEnd(ahead)) {
            bytes[slotOf(n)] = value;
            heldBits |= 1L << ahead;
        }
    }

    // Distances are compared, not numbers: numbers may go on from the greatest int to the least.
    private boolean isBeforeEnd(int ahead) {
        return !endKnown || ahead < endNumber - next;
    }

    private int moveOn() {
        int moved = 0;
        while (moved < ROOM && (heldBits & 1L) != 0L) {
            heldBits >>>= 1;
            next++;
            unread++;
            moved++;
        }
        return moved;
    }

    // A shift by ROOM would be a shift by 0 in Java, so distances outside are answered first.
    private boolean isHeldAhead(int ahead) {
        return ahead >= 0 && ahead < ROOM && ((heldBits >>> ahead) & 1L) != 0L;
    }

    private boolean isHeldFrom(int ahead) {
        return ahead >= 0 && ahead < ROOM && (heldBits >>> ahead) != 0L;
    }

    private long blockStarts() {
        return heldBits & ~(heldBits << 1);
    }

    private int startOfBlock(int i) {
        long starts = blockStarts();
        int before = 0;
        for (int ahead = 0; ahead < ROOM; ahead++) {
            if (((starts >>> ahead) & 1L) != 0L) {
                if (before == i) {
                    return ahead;
                }
                before++;
            }
        }
        return ROOM;
    }

    private int lengthOfBlock(int start) {
        int length = 0;
        while (length < ROOM && isHeldAhead(start + length)) {
            length++;
        }
        return length;
    }
}
