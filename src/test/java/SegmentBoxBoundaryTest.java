/** Each boundary case that the document names has a test of its own here, in the document's order. */
public final class SegmentBoxBoundaryTest {
    private static final int NEXT = 0;
    private static final int WINDOW = 1;
    private static final int UNREAD = 2;
    private static final int HELD = 3;
    private static final int BLOCKS = 4;
    private static final int END_KNOWN = 5;

    private static final int GREATEST = Integer.MAX_VALUE;
    private static final int LEAST = Integer.MIN_VALUE;
    private static final int HALF_ROUND = 1 << 31;
    private static final int[] STARTS = {0, 1, 63, 64, 1000, -1, -32, -64, GREATEST, GREATEST - 1, GREATEST - 32,
        GREATEST - 63, GREATEST - 64, LEAST, LEAST + 1};

    private static String test = "";
    private static int tests = 0;
    private static int wrong = 0;

    public static void main(String[] args) {
        whatItIs();
        termsNumbers();
        termsWindow();
        termsTaken();
        termsEnd();
        newObject();
        open();
        segment();
        end();
        read();
        told();
        block();
        held();
        System.out.println(tests + " boundary cases, " + wrong + " wrong answers");
        if (wrong != 0) {
            System.exit(1);
        }
    }

    // ---- What it is

    private static void whatItIs() {
        test("calls: the 512th call is a segment", () -> afterCalls(511).segment(0, 7, 1, 1));
        test("calls: the 512th call is an end", () -> afterCalls(511).end(64, true));
        test("calls: the 512th call is a read", () -> afterCalls(511).read(-1));
        test("calls: the 512th call is a told", () -> afterCalls(511).told(HELD, 2));
        test("calls: the 512th call is a block", () -> afterCalls(511).block(0, false, 5));
        test("calls: the 512th call is a held", () -> afterCalls(511).held(6, true));
        test("calls: the 512th call is refused", () -> afterCalls(511).segmentThrows(0, 9));
        test("calls: the answer to an open as the 511th call", () -> {
            Run box = afterCalls(510);
            box.open(GREATEST);
            box.told(NEXT, GREATEST);
        });
        test("calls: 256 bytes come and are read in 512 calls", () -> {
            Run box = new Run();
            for (int i = 0; i < 256; i++) {
                box.segment(i, i, 1, 1);
                box.read(i);
            }
        });
        test("calls: 448 bytes come by eights and are read, over the greatest int", () -> {
            Run box = new Run();
            box.open(GREATEST - 200);
            for (int i = 0; i < 56; i++) {
                box.segment(GREATEST - 200 + 8 * i, 0x0706050403020100L + 0x0101010101010101L * i, 8, 8);
                for (int k = 0; k < 8; k++) {
                    box.read(k + i);
                }
            }
            box.told(NEXT, LEAST + 247);
        });
    }

    private static Run afterCalls(int calls) {
        Run box = new Run();
        box.segment(5, 0x0201, 2, 0);
        for (int i = 1; i < calls; i++) {
            box.held(5, true);
        }
        return box;
    }

    // ---- Terms: NUMBERS

    private static void termsNumbers() {
        test("numbers: NEXT goes on from the greatest int to the least", () -> {
            Run box = opened(GREATEST);
            box.segment(GREATEST, 9, 1, 1);
            box.told(NEXT, LEAST);
            box.segment(LEAST, 8, 1, 1);
            box.told(NEXT, LEAST + 1);
            box.read(9);
            box.read(8);
        });
        test("numbers: NEXT stops at the greatest int before it goes on", () -> {
            Run box = opened(GREATEST - 1);
            box.segment(GREATEST - 1, 9, 1, 1);
            box.told(NEXT, GREATEST);
        });
        test("numbers: one segment goes over the greatest int", () -> {
            for (int before = 1; before <= 7; before++) {
                Run box = opened(GREATEST - before + 1);
                box.segment(GREATEST - before + 1, 0x0807060504030201L, 8, 8);
                box.state(LEAST + 8 - before, 8, 0, 0, 0);
                box.reads(1, 2, 3, 4, 5, 6, 7, 8, -1);
            }
        });
        test("numbers: a segment that is HELD goes over the greatest int", () -> {
            Run box = opened(GREATEST - 4);
            box.segment(GREATEST - 1, 0x0605040302L, 5, 0);
            box.state(GREATEST - 4, 0, 5, 1, 0);
            box.segment(GREATEST - 4, 0x0F0E0D, 3, 8);
            box.reads(0x0D, 0x0E, 0x0F, 2, 3, 4, 5, 6, -1);
        });
        test("numbers: the least int is near to the greatest, not far before it", () -> {
            Run box = opened(GREATEST);
            box.segment(LEAST, 1, 1, 0);
            box.told(HELD, 1);
        });
        test("numbers: the greatest int is just before the least", () -> {
            Run box = opened(LEAST);
            box.segment(GREATEST, 0x0201, 2, 1);
            box.reads(2, -1);
        });
        test("numbers: from -1 to 0 nothing is odd", () -> {
            Run box = opened(-1);
            box.segment(0, 2, 1, 0);
            box.segment(-1, 1, 1, 2);
            box.told(NEXT, 1);
            box.reads(1, 2, -1);
        });
    }

    // ---- Terms: UNREAD and the WINDOW

    private static void termsWindow() {
        test("window: it is 64 less the UNREAD bytes, for each number of them", () -> {
            Run box = new Run();
            for (int unread = 0; unread <= 64; unread++) {
                box.told(UNREAD, unread);
                box.told(WINDOW, 64 - unread);
                box.segment(unread, 1, 1, unread < 64 ? 1 : 0);
            }
        });
        test("window: it grows by one with each read, up to 64", () -> {
            Run box = full(0);
            for (int window = 0; window <= 64; window++) {
                box.told(WINDOW, window);
                box.read(window < 64 ? window : -1);
            }
            box.told(WINDOW, 64);
        });
        test("window: HELD bytes do not make it smaller", () -> {
            Run box = new Run();
            holdAllBehindNext(box, 0);
            box.state(0, 0, 63, 1, 0);
        });
        test("window: 64 bytes are UNREAD, not a 65th", () -> {
            Run box = full(0);
            box.state(64, 64, 0, 0, 0);
            box.segment(64, 99, 1, 0);
            box.state(64, 64, 0, 0, 0);
        });
        test("window: if it is 0 a whole segment from NEXT on is not taken", () -> {
            Run box = full(0);
            box.segment(64, -1L, 8, 0);
            box.state(64, 64, 0, 0, 0);
            box.readsFull();
        });
        test("window: if it is 0 no byte further on is HELD", () -> {
            Run box = full(0);
            for (int n = 65; n <= 130; n++) {
                box.segment(n, -1L, 1, 0);
            }
            box.state(64, 64, 0, 0, 0);
            box.readsFull();
        });
        test("window: if it is 0 over the greatest int nothing is taken", () -> {
            Run box = full(GREATEST - 20);
            box.state(LEAST + 43, 64, 0, 0, 0);
            box.segment(LEAST + 43, -1L, 8, 0);
            box.state(LEAST + 43, 64, 0, 0, 0);
            box.readsFull();
        });
        test("window: if it is 0 bytes that came are not taken again", () -> {
            Run box = full(0);
            box.segment(60, -1L, 8, 0);
            box.segment(0, -1L, 8, 0);
            box.state(64, 64, 0, 0, 0);
            box.readsFull();
        });
        test("window: if it is 1 only the byte at NEXT is taken", () -> {
            Run box = full(0);
            box.read(0);
            box.segment(65, 0x99, 1, 0);
            box.told(HELD, 0);
            box.segment(64, 0x7777777777777740L, 8, 1);
            box.state(65, 64, 0, 0, 0);
            for (int i = 1; i <= 64; i++) {
                box.read(i);
            }
            box.read(-1);
        });
        test("window: a byte that came while it was 0 has to come again", () -> {
            Run box = full(0);
            box.segment(64, 5, 1, 0);
            box.read(0);
            box.state(64, 63, 0, 0, 0);
            box.segment(64, 6, 1, 1);
            box.told(UNREAD, 64);
        });
    }

    // ---- Terms: which bytes are taken

    private static void termsTaken() {
        test("taken: the last byte of the WINDOW, not the one behind it", () -> {
            for (int start : STARTS) {
                Run box = opened(start);
                box.segment(start + 64, 1, 1, 0);
                box.told(HELD, 0);
                box.segment(start + 63, 1, 1, 0);
                box.told(HELD, 1);
                box.held(start + 63, true);
                box.held(start + 64, false);
            }
        });
        test("taken: the last byte of each smaller WINDOW, not the one behind it", () -> {
            for (int unread = 1; unread < 63; unread++) {
                Run box = new Run();
                bring(box, 0, unread);
                box.segment(64, 1, 1, 0);
                box.told(HELD, 0);
                box.segment(63, 1, 1, 0);
                box.told(HELD, 1);
            }
        });
        test("taken: after each read one byte more", () -> {
            Run box = new Run();
            bring(box, 0, 8);
            for (int read = 1; read <= 8; read++) {
                box.read(read - 1);
                box.segment(64 + read, 1, 1, 0);
                box.held(64 + read, false);
                box.segment(63 + read, 1, 1, 0);
                box.held(63 + read, true);
            }
        });
        test("taken: of a segment over the WINDOW's edge the part inside", () -> {
            for (int inside = 0; inside <= 8; inside++) {
                Run box = new Run();
                box.segment(64 - inside, -1L, 8, 0);
                box.told(HELD, inside);
            }
        });
        test("taken: the bytes that a segment brings do not move the WINDOW's edge", () -> {
            Run box = new Run();
            bring(box, 0, 60);
            box.segment(60, 0x0807060504030201L, 8, 4);
            box.state(64, 64, 0, 0, 0);
        });
        test("taken: not the byte before NEXT, though it never came", () -> {
            for (int start : STARTS) {
                Run box = opened(start);
                box.segment(start - 1, 1, 1, 0);
                box.state(start, 0, 0, 0, 0);
                box.read(-1);
            }
        });
        test("taken: not 64 bytes before NEXT", () -> {
            for (int before = 1; before <= 65; before++) {
                Run box = opened(1000);
                box.segment(1000 - before, 1, 1, 0);
                box.state(1000, 0, 0, 0, 0);
            }
        });
        test("taken: of a segment over NEXT the part from NEXT on", () -> {
            for (int before = 0; before <= 8; before++) {
                Run box = opened(1000);
                box.segment(1000 - before, 0x0807060504030201L, 8, 8 - before);
                box.state(1008 - before, 8 - before, 0, 0, 0);
                box.read(before < 8 ? before + 1 : -1);
            }
        });
        test("taken: nothing half round the NUMBERS or further", () -> {
            for (int start : STARTS) {
                Run box = opened(start);
                box.segment(start + HALF_ROUND - 1, 1, 1, 0);
                box.segment(start + HALF_ROUND, 1, 1, 0);
                box.segment(start + HALF_ROUND + 1, 1, 1, 0);
                box.segment(start + HALF_ROUND + 63, 1, 1, 0);
                box.segment(start + 65536, 1, 1, 0);
                box.segment(start + 256, 1, 1, 0);
                box.segment(start + 128, 1, 1, 0);
                box.state(start, 0, 0, 0, 0);
            }
        });
        test("taken: not twice while it is UNREAD", () -> {
            Run box = new Run();
            box.segment(0, 0x0201, 2, 2);
            box.segment(0, 0x0403, 2, 0);
            box.state(2, 2, 0, 0, 0);
            box.reads(1, 2, -1);
        });
        test("taken: not twice after it was read", () -> {
            Run box = new Run();
            box.segment(0, 0x0201, 2, 2);
            box.reads(1, 2);
            box.segment(0, 0x0403, 2, 0);
            box.state(2, 0, 0, 0, 0);
            box.read(-1);
        });
        test("taken: not twice while it is HELD, the first value stays", () -> {
            Run box = new Run();
            box.segment(3, 0x0504, 2, 0);
            box.segment(3, 0x9998, 2, 0);
            box.state(0, 0, 2, 1, 0);
            box.segment(0, 0x9796030201L, 5, 5);
            box.reads(1, 2, 3, 4, 5, -1);
        });
        test("taken: not twice at the WINDOW's last byte", () -> {
            Run box = new Run();
            box.segment(63, 63, 1, 0);
            box.segment(63, 99, 1, 0);
            box.told(HELD, 1);
            for (int n = 0; n < 63; n++) {
                box.segment(n, n, 1, n < 62 ? 1 : 2);
            }
            box.readsFull();
        });
        test("taken: a byte 64 further on is another byte", () -> {
            Run box = new Run();
            box.segment(0, 0x0201, 2, 2);
            box.read(1);
            box.segment(64, 0x77, 1, 0);
            box.held(64, true);
            box.read(2);
            for (int n = 2; n < 64; n++) {
                box.segment(n, n, 1, n < 63 ? 1 : 2);
            }
            for (int n = 2; n < 64; n++) {
                box.read(n);
            }
            box.reads(0x77, -1);
        });
        test("taken: NEXT goes over the HELD bytes behind it and stops at the first gap", () -> {
            Run box = new Run();
            box.segment(1, 0x0302, 2, 0);
            box.segment(4, 0x05, 1, 0);
            box.segment(0, 0x01, 1, 3);
            box.state(3, 3, 1, 1, 0);
            box.segment(3, 0x04, 1, 2);
            box.state(5, 5, 0, 0, 0);
            box.reads(1, 2, 3, 4, 5, -1);
        });
        test("taken: one byte at NEXT makes 64 UNREAD", () -> {
            for (int start : STARTS) {
                Run box = opened(start);
                holdAllBehindNext(box, start);
                box.segment(start, 0, 1, 64);
                box.state(start + 64, 64, 0, 0, 0);
                box.readsFull();
            }
        });
    }

    // ---- Terms: the END

    private static void termsEnd() {
        test("at the END: the byte before it is taken, the one at it is not", () -> {
            for (int start : STARTS) {
                Run box = opened(start);
                box.end(start + 10, true);
                box.segment(start + 10, 1, 1, 0);
                box.told(HELD, 0);
                box.segment(start + 9, 1, 1, 0);
                box.told(HELD, 1);
            }
        });
        test("at the END: no byte behind it is taken", () -> {
            Run box = new Run();
            box.end(10, true);
            for (int n = 11; n <= 64; n++) {
                box.segment(n, 1, 1, 0);
            }
            box.state(0, 0, 0, 0, 1);
        });
        test("at the END: of a segment over it the part before it", () -> {
            for (int before = 0; before <= 8; before++) {
                Run box = new Run();
                box.end(20, true);
                box.segment(20 - before, -1L, 8, 0);
                box.told(HELD, before);
            }
        });
        test("at the END: of a segment over it from NEXT on the part before it", () -> {
            for (int end = 0; end <= 8; end++) {
                Run box = opened(GREATEST - 3);
                box.end(GREATEST - 3 + end, true);
                box.segment(GREATEST - 3, -1L, 8, end);
                box.state(GREATEST - 3 + end, end, 0, 0, 1);
            }
        });
        test("at the END: if NEXT is the END nothing is taken", () -> {
            Run box = new Run();
            box.end(0, true);
            for (int n = 0; n < 64; n++) {
                box.segment(n, 1, 1, 0);
            }
            box.state(0, 0, 0, 0, 1);
        });
        test("at the END: nothing behind it is taken though reads make room", () -> {
            Run box = full(0);
            box.end(64, true);
            for (int i = 0; i < 64; i++) {
                box.read(i);
                box.segment(64, -1L, 8, 0);
            }
            box.state(64, 0, 0, 0, 1);
            box.read(-2);
        });
        test("at the END: it stays where it is when NEXT moves on", () -> {
            Run box = new Run();
            box.end(64, true);
            bring(box, 0, 60);
            for (int i = 0; i < 60; i++) {
                box.read(i);
            }
            box.segment(58, 0x4746454443424140L, 8, 4);
            box.reads(0x42, 0x43, 0x44, 0x45, -2);
        });
        test("at the END: it is the greatest int, and the least is behind it", () -> {
            Run box = opened(GREATEST - 2);
            box.end(GREATEST, true);
            box.segment(LEAST, 1, 1, 0);
            box.told(HELD, 0);
            box.segment(GREATEST - 2, 0x04030201, 4, 2);
            box.reads(1, 2, -2);
        });
        test("at the END: it is the least int, and the greatest is before it", () -> {
            Run box = opened(GREATEST - 2);
            box.end(LEAST, true);
            box.segment(LEAST, 1, 1, 0);
            box.told(HELD, 0);
            box.segment(GREATEST - 2, 0x04030201, 4, 3);
            box.told(NEXT, LEAST);
            box.reads(1, 2, 3, -2);
        });
    }

    // ---- Promise 1

    private static void newObject() {
        test("new: NEXT is 0, all of the WINDOW is there, nothing came, no END", () -> new Run().state(0, 0, 0, 0, 0));
        test("new: nothing to read, and no END at 0", () -> new Run().reads(-1, -1));
        test("new: no block", () -> new Run().blockThrows(0));
        test("new: nothing is HELD", () -> {
            Run box = new Run();
            box.noneHeld(0);
            box.held(GREATEST, false);
            box.held(LEAST, false);
        });
        test("new: byte 0 is the first that is taken", () -> {
            Run box = new Run();
            box.segment(-1, 0x0201, 2, 1);
            box.reads(2, -1);
        });
        test("new: an END can come at once", () -> new Run().end(0, true));
        test("new: a second object has nothing of the first", () -> {
            Run one = new Run();
            one.segment(0, 0x0201, 2, 2);
            one.segment(5, 6, 1, 0);
            one.end(9, true);
            Run two = new Run();
            two.state(0, 0, 0, 0, 0);
            two.segment(0, 0x0403, 2, 2);
            one.state(2, 2, 1, 1, 1);
            one.reads(1, 2, -1);
            two.reads(3, 4, -1);
        });
    }

    // ---- Promise 2

    private static void open() {
        test("open: NEXT is n, for each edge of the ints", () -> {
            for (int start : STARTS) {
                opened(start).state(start, 0, 0, 0, 0);
            }
        });
        test("open: UNREAD bytes are gone", () -> {
            Run box = new Run();
            box.segment(0, 0x0201, 2, 2);
            box.open(2);
            box.state(2, 0, 0, 0, 0);
            box.read(-1);
        });
        test("open: 64 UNREAD bytes are gone, the WINDOW is 64", () -> {
            Run box = full(0);
            box.open(64);
            box.state(64, 0, 0, 0, 0);
            box.read(-1);
            box.segment(64, 5, 1, 1);
            box.segment(127, 5, 1, 0);
            box.held(127, true);
        });
        test("open: HELD bytes are gone, by NUMBER and by distance from NEXT", () -> {
            Run box = new Run();
            holdAllBehindNext(box, 0);
            box.open(10);
            box.state(10, 0, 0, 0, 0);
            box.noneHeld(10);
            box.blockThrows(0);
            box.segment(10, 1, 1, 1);
        });
        test("open: a known END is gone", () -> {
            Run box = new Run();
            box.end(5, true);
            box.open(0);
            box.told(END_KNOWN, 0);
            box.segment(5, 1, 1, 0);
            box.held(5, true);
        });
        test("open: at the old END it is not the END", () -> {
            Run box = new Run();
            box.end(0, true);
            box.read(-2);
            box.open(0);
            box.read(-1);
        });
        test("open: another END can be known", () -> {
            Run box = new Run();
            box.end(5, true);
            box.open(0);
            box.end(6, true);
            box.segment(0, 0, 8, 6);
        });
        test("open: bytes that were taken are taken anew, with new values", () -> {
            Run box = new Run();
            box.segment(0, 0x0201, 2, 2);
            box.read(1);
            box.segment(3, 0x0504, 2, 0);
            box.open(0);
            box.segment(0, 0x1514131211L, 5, 5);
            box.reads(0x11, 0x12, 0x13, 0x14, 0x15, -1);
        });
        test("open: at the NEXT that was, all begins anew too", () -> {
            Run box = new Run();
            box.segment(0, 0x0201, 2, 2);
            box.segment(4, 5, 1, 0);
            box.end(9, true);
            box.open(2);
            box.state(2, 0, 0, 0, 0);
            box.read(-1);
            box.noneHeld(2);
        });
        test("open: twice", () -> {
            Run box = new Run();
            box.open(7);
            box.open(-7);
            box.state(-7, 0, 0, 0, 0);
        });
    }

    // ---- Promise 3

    private static void segment() {
        test("segment: m is 0, at NEXT", () -> {
            Run box = new Run();
            box.segment(0, -1L, 0, 0);
            box.state(0, 0, 0, 0, 0);
        });
        test("segment: m is 0, elsewhere and with a full box", () -> {
            Run box = new Run();
            box.segment(5, -1L, 0, 0);
            box.segment(-5, -1L, 0, 0);
            box.segment(GREATEST, -1L, 0, 0);
            box.state(0, 0, 0, 0, 0);
            Run full = full(0);
            full.segment(64, -1L, 0, 0);
            full.state(64, 64, 0, 0, 0);
        });
        test("segment: m is 0, the UNREAD bytes that were there do not count", () -> {
            Run box = new Run();
            box.segment(0, 1, 3, 3);
            box.segment(3, -1L, 0, 0);
            box.state(3, 3, 0, 0, 0);
        });
        test("segment: each m from 1 to 8 brings just as many bytes", () -> {
            for (int m = 1; m <= 8; m++) {
                Run box = new Run();
                box.segment(0, 0x0807060504030201L, m, m);
                for (int i = 1; i <= m; i++) {
                    box.read(i);
                }
                box.read(-1);
                box.segment(m + 1, -1L, m, 0);
                box.told(HELD, m);
            }
        });
        test("segment: m is -1", () -> refusedSegment(-1));
        test("segment: m is 9", () -> refusedSegment(9));
        test("segment: m is the least int", () -> refusedSegment(LEAST));
        test("segment: m is the greatest int", () -> refusedSegment(GREATEST));
        test("segment: m is small only in its lowest byte or half", () -> {
            refusedSegment(256);
            refusedSegment(257);
            refusedSegment(65536 + 4);
            refusedSegment(LEAST + 8);
            refusedSegment(-8);
        });
        test("segment: another m throws where no byte would be taken too", () -> {
            Run box = full(0);
            box.segmentThrows(64, 9);
            box.segmentThrows(64, -1);
            box.segmentThrows(0, 9);
            box.segmentThrows(GREATEST, -1);
            box.end(64, true);
            box.segmentThrows(64, 9);
            box.segmentThrows(64, -1);
            box.state(64, 64, 0, 0, 1);
            box.readsFullUntil(-2);
        });
        test("segment: the first byte is the lowest of v, the eighth the highest", () -> {
            Run box = new Run();
            box.segment(0, 0xFF80017F00FE8102L, 8, 8);
            box.reads(0x02, 0x81, 0xFE, 0x00, 0x7F, 0x01, 0x80, 0xFF, -1);
        });
        test("segment: the lowest of v is the first byte, taken or not", () -> {
            Run box = opened(3);
            box.segment(0, 0x0807060504030201L, 8, 5);
            box.reads(4, 5, 6, 7, 8, -1);
        });
        test("segment: UNREAD by that, not those that were UNREAD before", () -> {
            Run box = new Run();
            box.segment(0, 0, 8, 8);
            box.segment(8, 0, 3, 3);
            box.told(UNREAD, 11);
        });
        test("segment: UNREAD by that, with those that were HELD", () -> {
            Run box = new Run();
            box.segment(1, 0, 8, 0);
            box.segment(0, 0, 1, 9);
        });
        test("segment: UNREAD by that, none if all are HELD", () -> {
            Run box = new Run();
            box.segment(0, 0, 8, 8);
            box.segment(9, 0, 8, 0);
            box.told(HELD, 8);
        });
    }

    private static void refusedSegment(int m) {
        Run box = new Run();
        box.segment(0, 0x0201, 2, 2);
        box.segment(4, 0x05, 1, 0);
        box.segmentThrows(2, m);
        box.segmentThrows(5, m);
        box.segmentThrows(100, m);
        box.state(2, 2, 1, 1, 0);
        box.block(0, false, 4);
        box.segment(2, 0x0403, 2, 3);
        box.reads(1, 2, 3, 4, 5, -1);
    }

    // ---- Promise 4

    private static void end() {
        test("end: it was known already, at the same n", () -> {
            Run box = new Run();
            box.end(5, true);
            box.end(5, false);
            box.state(0, 0, 0, 0, 1);
        });
        test("end: it was known already, and stays where it was", () -> {
            Run box = new Run();
            box.end(5, true);
            box.end(4, false);
            box.end(6, false);
            box.end(0, false);
            box.end(64, false);
            box.end(65, false);
            box.end(-1, false);
            box.segment(0, 0, 8, 5);
            box.state(5, 5, 0, 0, 1);
        });
        test("end: it was known already, and NEXT has reached it", () -> {
            Run box = new Run();
            box.end(2, true);
            box.segment(0, 0x0201, 2, 2);
            box.end(2, false);
            box.end(3, false);
            box.reads(1, 2, -2);
            box.end(2, false);
            box.read(-2);
        });
        test("end: n is NEXT", () -> {
            for (int start : STARTS) {
                Run box = opened(start);
                box.end(start, true);
                box.state(start, 0, 0, 0, 1);
                box.read(-2);
            }
        });
        test("end: n is one before NEXT", () -> {
            for (int start : STARTS) {
                Run box = opened(start);
                box.end(start - 1, false);
                box.state(start, 0, 0, 0, 0);
            }
        });
        test("end: n is before NEXT, at an UNREAD byte or one that was read", () -> {
            Run box = new Run();
            bring(box, 0, 4);
            box.reads(0, 1);
            for (int n = -64; n <= 3; n++) {
                box.end(n, false);
            }
            box.told(END_KNOWN, 0);
            box.end(4, true);
        });
        test("end: n is WINDOW further on", () -> {
            for (int start : STARTS) {
                Run box = opened(start);
                box.end(start + 64, true);
                box.told(END_KNOWN, 1);
                box.segment(start + 63, -1L, 8, 0);
                box.told(HELD, 1);
            }
        });
        test("end: n is one more than WINDOW further on", () -> {
            for (int start : STARTS) {
                Run box = opened(start);
                box.end(start + 65, false);
                box.state(start, 0, 0, 0, 0);
            }
        });
        test("end: n is at the edge of each smaller WINDOW", () -> {
            for (int unread = 1; unread <= 64; unread++) {
                Run box = opened(GREATEST - 40);
                bring(box, GREATEST - 40, unread);
                box.end(GREATEST - 40 + 65, false);
                box.told(END_KNOWN, 0);
                box.end(GREATEST - 40 + 64, true);
                box.told(END_KNOWN, 1);
            }
        });
        test("end: a read moves the edge one further on", () -> {
            Run box = new Run();
            bring(box, 0, 8);
            box.read(0);
            box.end(66, false);
            box.end(65, true);
        });
        test("end: the WINDOW is 0, and n is NEXT", () -> {
            Run box = full(0);
            box.end(63, false);
            box.end(65, false);
            box.told(END_KNOWN, 0);
            box.end(64, true);
            box.readsFullUntil(-2);
        });
        test("end: n is half round the NUMBERS or more", () -> {
            for (int start : STARTS) {
                Run box = opened(start);
                box.end(start + HALF_ROUND - 1, false);
                box.end(start + HALF_ROUND, false);
                box.end(start + HALF_ROUND + 1, false);
                box.end(start + HALF_ROUND + 64, false);
                box.end(start + 256, false);
                box.end(start + 65536, false);
                box.state(start, 0, 0, 0, 0);
            }
        });
        test("end: the byte at n is HELD", () -> {
            for (int start : STARTS) {
                Run box = opened(start);
                box.segment(start + 10, 1, 1, 0);
                box.end(start + 10, false);
                box.state(start, 0, 1, 1, 0);
            }
        });
        test("end: a byte behind n is HELD", () -> {
            for (int start : STARTS) {
                Run box = opened(start);
                box.segment(start + 10, 1, 1, 0);
                box.end(start + 9, false);
                box.end(start + 1, false);
                box.end(start, false);
                box.state(start, 0, 1, 1, 0);
            }
        });
        test("end: the byte before n is the last that is HELD", () -> {
            for (int start : STARTS) {
                Run box = opened(start);
                box.segment(start + 10, 1, 1, 0);
                box.end(start + 11, true);
                box.state(start, 0, 1, 1, 1);
            }
        });
        test("end: n is in a gap between HELD bytes", () -> {
            Run box = new Run();
            box.segment(5, 1, 1, 0);
            box.segment(10, 1, 1, 0);
            box.end(7, false);
            box.end(6, false);
            box.told(END_KNOWN, 0);
        });
        test("end: the WINDOW's last byte is HELD", () -> {
            Run box = new Run();
            box.segment(63, 1, 1, 0);
            box.end(0, false);
            box.end(62, false);
            box.end(63, false);
            box.end(64, true);
        });
        test("end: UNREAD bytes are not HELD, the END can be right behind them", () -> {
            Run box = new Run();
            box.segment(0, 0x0201, 2, 2);
            box.end(2, true);
            box.reads(1, 2, -2);
        });
        test("end: after it was refused it can be known", () -> {
            Run box = new Run();
            box.segment(3, 4, 1, 0);
            box.end(3, false);
            box.end(65, false);
            box.end(-1, false);
            box.end(4, true);
            box.segment(0, 0x99030201L, 4, 4);
            box.reads(1, 2, 3, 4, -2);
        });
        test("end: a refused one keeps no byte away", () -> {
            Run box = new Run();
            box.segment(6, 7, 1, 0);
            box.end(2, false);
            box.segment(0, 0x060504030201L, 6, 7);
            box.reads(1, 2, 3, 4, 5, 6, 7, -1);
        });
    }

    // ---- Promise 5

    private static void read() {
        test("read: -1 without, though bytes are HELD", () -> {
            Run box = new Run();
            box.segment(1, -1L, 8, 0);
            box.reads(-1, -1);
            box.state(0, 0, 8, 1, 0);
        });
        test("read: -1 without, if the END is known further on", () -> {
            Run box = new Run();
            box.end(1, true);
            box.reads(-1, -1);
            box.state(0, 0, 0, 0, 1);
        });
        test("read: -1 without, if all bytes but one before the END are HELD", () -> {
            Run box = new Run();
            box.end(3, true);
            box.segment(1, 0x0302, 2, 0);
            box.read(-1);
            box.segment(0, 1, 1, 3);
            box.reads(1, 2, 3, -2);
        });
        test("read: -1 without, after the last of all UNREAD bytes", () -> {
            Run box = new Run();
            box.segment(0, 5, 1, 1);
            box.reads(5, -1, -1);
            box.state(1, 0, 0, 0, 0);
        });
        test("read: -1, not -2, if an END at NEXT was refused", () -> {
            Run box = new Run();
            box.segment(1, 2, 1, 0);
            box.end(0, false);
            box.read(-1);
        });
        test("read: -2 if NEXT is the END, again and again", () -> {
            Run box = new Run();
            box.end(0, true);
            box.reads(-2, -2, -2);
            box.state(0, 0, 0, 0, 1);
        });
        test("read: -2 only behind the last UNREAD byte", () -> {
            Run box = new Run();
            box.segment(0, 0x0201, 2, 2);
            box.end(2, true);
            box.reads(1, 2, -2, -2);
        });
        test("read: -1 turns to -2 when the END comes to be known", () -> {
            Run box = new Run();
            box.segment(0, 1, 1, 1);
            box.reads(1, -1);
            box.end(1, true);
            box.read(-2);
        });
        test("read: -2 over the greatest int", () -> {
            Run box = opened(GREATEST);
            box.end(LEAST + 1, true);
            box.segment(GREATEST, 0x0201, 2, 2);
            box.reads(1, 2, -2);
        });
        test("read: each byte from 0 to 255 is read as itself", () -> {
            Run box = new Run();
            for (int value = 0; value <= 255; value++) {
                box.segment(value, value, 1, 1);
                box.read(value);
            }
        });
        test("read: 255 and 254 are no -1 and -2", () -> {
            Run box = new Run();
            box.segment(0, 0xFEFF, 2, 2);
            box.end(2, true);
            box.reads(255, 254, -2);
        });
        test("read: the byte is not UNREAD then, NEXT stays", () -> {
            Run box = new Run();
            box.segment(0, 0x0201, 2, 2);
            box.read(1);
            box.state(2, 1, 0, 0, 0);
            box.read(2);
            box.state(2, 0, 0, 0, 0);
        });
        test("read: without any it changes nothing", () -> {
            Run box = new Run();
            box.segment(2, 3, 1, 0);
            box.reads(-1, -1, -1);
            box.state(0, 0, 1, 1, 0);
            box.segment(0, 0x0201, 2, 3);
            box.reads(1, 2, 3, -1);
        });
    }

    // ---- Promise 6

    private static void told() {
        test("told: what is -1", () -> refusedTold(-1));
        test("told: what is 6", () -> refusedTold(6));
        test("told: what is the least int", () -> refusedTold(LEAST));
        test("told: what is the greatest int", () -> refusedTold(GREATEST));
        test("told: what is 0 to 5 only in its lowest byte or half", () -> {
            refusedTold(256);
            refusedTold(256 + 5);
            refusedTold(65536 + 1);
            refusedTold(LEAST + 2);
            refusedTold(-5);
        });
        test("told: each what from 0 to 5 has an answer of its own", () -> {
            Run box = opened(100);
            bring(box, 100, 7);
            box.segment(110, 0, 3, 0);
            box.segment(120, 0, 2, 0);
            box.end(130, true);
            box.told(NEXT, 107);
            box.told(WINDOW, 57);
            box.told(UNREAD, 7);
            box.told(HELD, 5);
            box.told(BLOCKS, 2);
            box.told(END_KNOWN, 1);
        });
        test("told: NEXT is the least int, the greatest, and -1", () -> {
            opened(LEAST).told(NEXT, LEAST);
            opened(GREATEST).told(NEXT, GREATEST);
            opened(-1).told(NEXT, -1);
        });
        test("told: most bytes that can be HELD", () -> {
            Run box = new Run();
            holdAllBehindNext(box, 0);
            box.told(HELD, 63);
            box.told(BLOCKS, 1);
        });
        test("told: most BLOCKS that there can be", () -> {
            Run box = new Run();
            for (int n = 1; n < 64; n += 2) {
                box.segment(n, 1, 1, 0);
            }
            box.told(HELD, 32);
            box.told(BLOCKS, 32);
        });
        test("told: HELD bytes one behind the other are one BLOCK, with a byte between two", () -> {
            Run box = new Run();
            box.segment(3, 1, 1, 0);
            box.segment(4, 1, 1, 0);
            box.told(BLOCKS, 1);
            box.segment(6, 1, 1, 0);
            box.told(BLOCKS, 2);
            box.segment(5, 1, 1, 0);
            box.told(BLOCKS, 1);
            box.told(HELD, 4);
        });
        test("told: the greatest int and the least are one behind the other", () -> {
            Run box = opened(GREATEST - 5);
            box.segment(LEAST, 1, 1, 0);
            box.segment(GREATEST, 1, 1, 0);
            box.told(HELD, 2);
            box.told(BLOCKS, 1);
        });
        test("told: END known, also when NEXT has reached it and all is read", () -> {
            Run box = new Run();
            box.told(END_KNOWN, 0);
            box.end(1, true);
            box.told(END_KNOWN, 1);
            box.segment(0, 1, 1, 1);
            box.told(END_KNOWN, 1);
            box.reads(1, -2);
            box.told(END_KNOWN, 1);
        });
    }

    private static void refusedTold(int what) {
        Run box = new Run();
        box.segment(0, 0x0201, 2, 2);
        box.segment(4, 5, 1, 0);
        box.toldThrows(what);
        box.state(2, 2, 1, 1, 0);
        box.reads(1, 2, -1);
    }

    // ---- Promise 7

    private static void block() {
        test("block: there is none on UNREAD bytes alone", () -> {
            Run box = new Run();
            box.segment(0, 0, 8, 8);
            box.blockThrows(0);
        });
        test("block: there is none with a full box", () -> full(0).blockThrows(0));
        test("block: i is -1", () -> refusedBlock(-1));
        test("block: i is the number of BLOCKS", () -> refusedBlock(2));
        test("block: i is the least int", () -> refusedBlock(LEAST));
        test("block: i is the greatest int", () -> refusedBlock(GREATEST));
        test("block: i is there only in its lowest byte or half, or as a distance", () -> {
            refusedBlock(256);
            refusedBlock(65536);
            refusedBlock(LEAST + 1);
            refusedBlock(32);
            refusedBlock(64);
            refusedBlock(-64);
        });
        test("block: the nearest to NEXT is 0, whatever came first", () -> {
            Run box = new Run();
            box.segment(30, 0, 3, 0);
            box.segment(10, 0, 2, 0);
            box.block(0, 10, 2);
            box.block(1, 30, 3);
            box.blockThrows(2);
        });
        test("block: the nearest to NEXT is 0 over the greatest int", () -> {
            Run box = opened(GREATEST - 10);
            box.segment(LEAST + 3, 0, 2, 0);
            box.segment(GREATEST - 3, 0, 3, 0);
            box.block(0, GREATEST - 3, 3);
            box.block(1, LEAST + 3, 2);
            box.blockThrows(2);
        });
        test("block: one BLOCK goes over the greatest int", () -> {
            Run box = opened(GREATEST - 10);
            box.segment(GREATEST - 1, 0, 5, 0);
            box.block(0, GREATEST - 1, 5);
            box.blockThrows(1);
        });
        test("block: its first byte is the greatest int, or the least", () -> {
            Run box = opened(GREATEST - 10);
            box.segment(GREATEST, 0, 1, 0);
            box.block(0, GREATEST, 1);
            Run other = opened(GREATEST - 10);
            other.segment(LEAST, 0, 1, 0);
            other.block(0, LEAST, 1);
        });
        test("block: it is one byte, one further on than NEXT", () -> {
            for (int start : STARTS) {
                Run box = opened(start);
                box.segment(start + 1, 0, 1, 0);
                box.block(0, start + 1, 1);
                box.blockThrows(1);
            }
        });
        test("block: it is the WINDOW's last byte", () -> {
            for (int start : STARTS) {
                Run box = opened(start);
                box.segment(start + 63, 0, 8, 0);
                box.block(0, start + 63, 1);
                box.blockThrows(1);
            }
        });
        test("block: it is as long as can be", () -> {
            for (int start : STARTS) {
                Run box = opened(start);
                holdAllBehindNext(box, start);
                box.block(0, start + 1, 63);
                box.blockThrows(1);
            }
        });
        test("block: there are as many as can be", () -> {
            Run box = opened(GREATEST - 31);
            for (int n = 1; n < 64; n += 2) {
                box.segment(GREATEST - 31 + n, 0, 1, 0);
            }
            for (int i = 0; i < 32; i++) {
                box.block(i, GREATEST - 31 + 2 * i + 1, 1);
            }
            box.blockThrows(32);
        });
        test("block: the first is gone when its bytes are UNREAD", () -> {
            Run box = new Run();
            box.segment(1, 0, 2, 0);
            box.segment(5, 0, 3, 0);
            box.segment(0, 0, 1, 3);
            box.block(0, 5, 3);
            box.blockThrows(1);
        });
        test("block: two grow together to one", () -> {
            Run box = new Run();
            box.segment(5, 0, 2, 0);
            box.segment(8, 0, 2, 0);
            box.block(1, 8, 2);
            box.segment(7, 0, 1, 0);
            box.block(0, 5, 5);
            box.blockThrows(1);
        });
        test("block: reads do not move it", () -> {
            Run box = new Run();
            box.segment(0, 0, 3, 3);
            box.segment(5, 0, 2, 0);
            box.reads(0, 0, 0, -1);
            box.block(0, 5, 2);
        });
    }

    private static void refusedBlock(int i) {
        Run box = new Run();
        box.segment(2, 0x0403, 2, 0);
        box.segment(6, 0x07, 1, 0);
        box.blockThrows(i);
        box.state(0, 0, 3, 2, 0);
        box.block(0, 2, 2);
        box.block(1, 6, 1);
    }

    // ---- Promise 8

    private static void held() {
        test("held: the byte at NEXT is not", () -> {
            Run box = new Run();
            holdAllBehindNext(box, 0);
            box.held(0, false);
        });
        test("held: the bytes on either side of a HELD one are not", () -> {
            for (int start : STARTS) {
                Run box = opened(start);
                box.segment(start + 10, 0, 1, 0);
                box.held(start + 9, false);
                box.held(start + 10, true);
                box.held(start + 11, false);
            }
        });
        test("held: the first and the last of the WINDOW behind NEXT", () -> {
            for (int start : STARTS) {
                Run box = opened(start);
                holdAllBehindNext(box, start);
                box.held(start, false);
                box.held(start + 1, true);
                box.held(start + 63, true);
                box.held(start + 64, false);
                box.held(start - 1, false);
            }
        });
        test("held: UNREAD bytes and those that were read are not", () -> {
            Run box = new Run();
            bring(box, 0, 8);
            box.reads(0, 1, 2, 3);
            box.noneHeld(8);
        });
        test("held: nothing is with a full box", () -> full(0).noneHeld(64));
        test("held: a HELD byte that is UNREAD then is not", () -> {
            Run box = new Run();
            box.segment(1, 0, 1, 0);
            box.held(1, true);
            box.segment(0, 0, 1, 2);
            box.held(1, false);
            box.noneHeld(2);
        });
        test("held: a byte that was not taken is not, before NEXT, behind the WINDOW, or at the END", () -> {
            Run box = opened(100);
            box.end(150, true);
            box.segment(99, 0, 1, 0);
            box.segment(150, 0, 1, 0);
            box.segment(164, 0, 1, 0);
            box.noneHeld(100);
        });
        test("held: 32, 64, 128 further on or before a HELD byte is not", () -> {
            for (int start : STARTS) {
                Run box = opened(start);
                box.segment(start + 5, 0, 1, 0);
                for (int far = 32; far != 0; far <<= 1) {
                    box.held(start + 5 + far, false);
                    box.held(start + 5 - far, false);
                }
                box.held(start + 5, true);
            }
        });
        test("held: across the greatest int, on either side", () -> {
            Run box = opened(GREATEST - 5);
            box.segment(GREATEST, 0, 2, 0);
            box.held(GREATEST - 1, false);
            box.held(GREATEST, true);
            box.held(LEAST, true);
            box.held(LEAST + 1, false);
        });
        test("held: the least int is not if only the greatest is", () -> {
            Run box = opened(GREATEST - 5);
            box.segment(GREATEST, 0, 1, 0);
            box.held(GREATEST, true);
            box.held(LEAST, false);
        });
        test("held: the greatest int is not if only the least is", () -> {
            Run box = opened(GREATEST - 5);
            box.segment(LEAST, 0, 1, 0);
            box.held(GREATEST, false);
            box.held(LEAST, true);
        });
        test("held: asking changes nothing", () -> {
            Run box = new Run();
            box.segment(2, 3, 1, 0);
            box.held(2, true);
            box.held(1, false);
            box.held(0, false);
            box.held(GREATEST, false);
            box.state(0, 0, 1, 1, 0);
            box.held(2, true);
        });
    }

    // ---- Boxes to begin with

    private static Run opened(int n) {
        Run box = new Run();
        box.open(n);
        return box;
    }

    /** A box with 64 UNREAD bytes from start on, with the values 0 to 63. */
    private static Run full(int start) {
        Run box = opened(start);
        bring(box, start, 64);
        return box;
    }

    private static void bring(Run box, int start, int many) {
        for (int i = 0; i < many; i++) {
            box.segment(start + i, i, 1, 1);
        }
    }

    /** Holds bytes 1 to 63 behind start, with the values 1 to 63. */
    private static void holdAllBehindNext(Run box, int start) {
        for (int i = 63; i >= 1; i--) {
            box.segment(start + i, i, 1, 0);
        }
    }

    // ---- One object and its calls, each with the answer that is due

    private static final class Run {
        private final SegmentBox box = new SegmentBox();
        private int calls = 0;

        void open(int n) {
            count();
            box.open(n);
        }

        void segment(int n, long v, int m, int want) {
            count();
            due("segment(" + n + ", " + v + ", " + m + ")", box.segment(n, v, m), want);
        }

        void end(int n, boolean want) {
            count();
            due("end(" + n + ")", box.end(n), want);
        }

        void read(int want) {
            count();
            due("read()", box.read(), want);
        }

        void told(int what, int want) {
            count();
            due("told(" + what + ")", box.told(what), want);
        }

        void block(int i, boolean many, int want) {
            count();
            due("block(" + i + ", " + many + ")", box.block(i, many), want);
        }

        void held(int n, boolean want) {
            count();
            due("held(" + n + ")", box.held(n), want);
        }

        void segmentThrows(int n, int m) {
            count();
            throwsJust("segment(" + n + ", -1, " + m + ")", IllegalArgumentException.class, () -> box.segment(n, -1L, m));
        }

        void toldThrows(int what) {
            count();
            throwsJust("told(" + what + ")", IllegalArgumentException.class, () -> box.told(what));
        }

        void blockThrows(int i) {
            count();
            throwsJust("block(" + i + ", false)", IndexOutOfBoundsException.class, () -> box.block(i, false));
            count();
            throwsJust("block(" + i + ", true)", IndexOutOfBoundsException.class, () -> box.block(i, true));
        }

        void block(int i, int first, int many) {
            block(i, false, first);
            block(i, true, many);
        }

        void state(int next, int unread, int held, int blocks, int end) {
            told(NEXT, next);
            told(WINDOW, 64 - unread);
            told(UNREAD, unread);
            told(HELD, held);
            told(BLOCKS, blocks);
            told(END_KNOWN, end);
        }

        void reads(int... wants) {
            for (int want : wants) {
                read(want);
            }
        }

        void readsFull() {
            readsFullUntil(-1);
        }

        void readsFullUntil(int last) {
            for (int value = 0; value < 64; value++) {
                read(value);
            }
            read(last);
        }

        void noneHeld(int next) {
            for (int n = next - 66; n != next + 130; n++) {
                held(n, false);
            }
        }

        // What a later call answers is free, so a test that goes on so long would show nothing.
        private void count() {
            calls++;
            if (calls > 512) {
                wrong("the test makes more than 512 calls");
            }
        }
    }

    // ---- Answers

    private static void test(String name, Runnable body) {
        test = name;
        tests++;
        try {
            body.run();
        } catch (RuntimeException e) {
            wrong("a call throws " + e);
        }
    }

    private static void throwsJust(String call, Class<?> want, Runnable body) {
        Class<?> got = null;
        try {
            body.run();
        } catch (RuntimeException e) {
            got = e.getClass();
        }
        if (got != want) {
            wrong(call + " throws " + got + ", due is " + want);
        }
    }

    private static void due(String call, boolean got, boolean want) {
        if (got != want) {
            wrong(call + " answered " + got + ", due is " + want);
        }
    }

    private static void due(String call, int got, int want) {
        if (got != want) {
            wrong(call + " answered " + got + ", due is " + want);
        }
    }

    private static void wrong(String what) {
        wrong++;
        System.out.println(test + ": " + what);
    }
}
