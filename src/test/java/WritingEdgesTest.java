/** Boundary cases of the promises 4 to 8: what is WRITTEN, STARVED, CLOSED and told. */
public final class WritingEdgesTest {
    private static final long MOST = 68719476735L;
    private static final int[] NO_INDEXES = {-1, 8, 239, Integer.MIN_VALUE, Integer.MAX_VALUE};
    private static final Edges e = new Edges("WritingEdgesTest");
    private static final Check c = e.check;

    public static void main(String[] args) {
        writeEdges();
        starveEdges();
        closeEdges();
        endEdges();
        fileEdges();
        e.finish(4, 5, 6, 7, 8);
    }

    private static void writeEdges() {
        e.edge(4, "there is no such TRACK", WritingEdgesTest::writeInNone);
        e.edge(4, "nibbles is not 0 to 68719476735", WritingEdgesTest::writeNibbles);
        e.edge(4, "it is CLOSED", WritingEdgesTest::writeInClosed);
        e.edge(4, "all its SECTORS are WRITTEN or left", WritingEdgesTest::writeInFull);
        e.edge(4, "its SECTORS are WRITTEN one by one from its first one on", WritingEdgesTest::writeOneByOne);
        e.edge(4, "Returns the SECTOR.", WritingEdgesTest::writeTheLast);
        e.edge(4, Edges.ORDER, WritingEdgesTest::writeOrder);
    }

    private static void starveEdges() {
        e.edge(5, "there is no such TRACK", WritingEdgesTest::starveNone);
        e.edge(5, "it is CLOSED", WritingEdgesTest::starveClosed);
        e.edge(5, "all its SECTORS are WRITTEN or left", WritingEdgesTest::starveFull);
        e.edge(5, "there is no CALIBRATION", WritingEdgesTest::starveWithout);
        e.edge(5, "the next SECTOR of it is left BLANK for good (a LINK)", WritingEdgesTest::starveLeaves);
        e.edge(5, "one of the CALIBRATIONS is used, too", WritingEdgesTest::starveUses);
        e.edge(5, "Returns the SECTOR that is left.", WritingEdgesTest::starveTheLast);
        e.edge(5, Edges.ORDER, WritingEdgesTest::starveOrder);
    }

    private static void closeEdges() {
        e.edge(6, "there is no such TRACK", WritingEdgesTest::closeNone);
        e.edge(6, "it is CLOSED", WritingEdgesTest::closeTwice);
        e.edge(6, "SECTORS that are RESERVED and not WRITTEN or left are given back", WritingEdgesTest::closeGives);
        e.edge(6, "if it is the last TRACK", WritingEdgesTest::closeNotTheLast);
        e.edge(6, "(NEXT is behind what it has, then)", WritingEdgesTest::closeMovesNext);
        e.edge(6, "otherwise they stay BLANK", WritingEdgesTest::closeLeavesBlank);
    }

    private static void endEdges() {
        e.edge(7, "none is open", WritingEdgesTest::endOfNone);
        e.edge(7, "a TRACK of it is open", WritingEdgesTest::endWithOpenTrack);
        e.edge(7, "fewer than 2 SECTORS are left from NEXT on", WritingEdgesTest::endWithoutRoom);
        e.edge(7, "Returns NEXT then.", WritingEdgesTest::endAtTheEnd);
        e.edge(7, "2 SECTORS from NEXT on are its END", WritingEdgesTest::endWithoutTrack);
    }

    private static void fileEdges() {
        e.edge(8, "file is not 0 to 9", WritingEdgesTest::fileNumbers);
        e.edge(8, "first is not 0 to 239", WritingEdgesTest::fileFirsts);
        e.edge(8, "length not 1 to 20", WritingEdgesTest::fileLengths);
        e.edge(8, "it is not in one DATA TRACK whole", WritingEdgesTest::fileNotWhole);
        e.edge(8, "in one DATA TRACK whole (of any SESSION, as its SECTORS are RESERVED by then",
            WritingEdgesTest::fileReserved);
        e.edge(8, "it stays told, whatever comes of them", WritingEdgesTest::fileStaysTold);
        e.edge(8, "no SESSION is open", WritingEdgesTest::fileWithoutSession);
        e.edge(8, "Returns in which TRACK it is.", WritingEdgesTest::fileInLastTrack);
        e.edge(8, Edges.ORDER, WritingEdgesTest::fileOrder);
    }

    private static void writeInNone() {
        Disc x = new Disc();
        c.refuses(x, "TRACK 0 of none", Check.INDEX, () -> x.write(0, 0));
        x.session();
        c.refuses(x, "TRACK 0 of none in a SESSION", Check.INDEX, () -> x.write(0, 0));
        x.track(1, 4);
        c.refuses(x, "TRACK 1 of 1", Check.INDEX, () -> x.write(1, 0));
        for (int track : NO_INDEXES) {
            c.refuses(x, "TRACK " + track, Check.INDEX, () -> x.write(track, 0));
        }
        c.due("TRACK 0 of 1", 6, x.write(0, 0));
        Disc eight = new Disc();
        eight.session();
        for (int t = 0; t < 8; t++) {
            eight.track(0, 1);
        }
        c.refuses(eight, "TRACK 8 of 8", Check.INDEX, () -> eight.write(8, 0));
        c.due("TRACK 7 of 8", 27, eight.write(7, 0));
    }

    private static void writeNibbles() {
        Disc x = Disc.opened(1, 4);
        long[] not = {-1, MOST + 1, MOST + 2, 2 * MOST, -MOST, Long.MIN_VALUE, Long.MAX_VALUE, 1L << 40, 1L << 62,
            Integer.MIN_VALUE};
        for (long nibbles : not) {
            c.refuses(x, "nibbles " + nibbles, Check.ARGUMENT, () -> x.write(0, nibbles));
        }
        long[] all = {0, MOST, 1, 1L << 35};
        for (int k = 0; k < all.length; k++) {
            c.due("nibbles " + all[k], 6 + k, x.write(0, all[k]));
            c.due("they come out", all[k], x.nibbles(6 + k, false));
            c.due("GOOD", 0, x.ofSector(6 + k, 3));
        }
    }

    private static void writeInClosed() {
        Disc x = Disc.opened(1, 4);
        x.write(0, 1);
        x.track(1, 4);
        x.close(0);
        c.refuses(x, "3 are not WRITTEN", Check.STATE, () -> x.write(0, 1));
        x.close(1);
        c.refuses(x, "all were given back", Check.STATE, () -> x.write(1, 1));
        x.end();
        c.refuses(x, "of a CLOSED SESSION", Check.STATE, () -> x.write(0, 1));
    }

    private static void writeInFull() {
        Disc x = Disc.opened(1, 2);
        x.write(0, 1);
        c.due("the last one", 7, x.write(0, 1));
        c.refuses(x, "all are WRITTEN", Check.STATE, () -> x.write(0, 1));
        x.track(0, 2);
        x.starve(1);
        c.due("the last one, behind a LINK", 11, x.write(1, 1));
        c.refuses(x, "one is left, one is WRITTEN", Check.STATE, () -> x.write(1, 1));
        x.track(0, 2);
        x.write(2, 1);
        x.starve(2);
        c.refuses(x, "one is WRITTEN, the last one is left", Check.STATE, () -> x.write(2, 1));
        x.track(1, 1);
        x.starve(3);
        c.refuses(x, "the one that it has is left", Check.STATE, () -> x.write(3, 1));
    }

    private static void writeOneByOne() {
        Disc x = Disc.opened(1, 3);
        x.track(0, 3);
        c.due("the first", 6, x.write(0, 1));
        c.due("the first of the other", 11, x.write(1, 2));
        c.due("the second", 7, x.write(0, 3));
        c.due("the third is BLANK yet", 0, x.ofSector(8, 1));
        c.due("the third", 8, x.write(0, 4));
        long[] due = {1, 3, 4};
        for (int k = 0; k < due.length; k++) {
            c.due("each has its own", due[k], x.nibbles(6 + k, true));
        }
    }

    private static void writeTheLast() {
        Disc x = Disc.filledTo(237);
        x.track(1, 1);
        c.due("the last one of the DISC", 239, x.write(6, MOST));
        c.due("GOOD", 0, x.ofSector(239, 3));
        c.due("its NIBBLES", MOST, x.nibbles(239, true));
        c.refuses(x, "no other one is behind it", Check.STATE, () -> x.write(6, MOST));
    }

    private static void writeOrder() {
        Disc x = Disc.opened(1, 1);
        c.refuses(x, "no TRACK and no nibbles", Check.INDEX, () -> x.write(1, -1));
        c.refuses(x, "no TRACK and too many", Check.INDEX, () -> x.write(-1, MOST + 1));
        x.write(0, 1);
        c.refuses(x, "no nibbles and full", Check.ARGUMENT, () -> x.write(0, -1));
        x.close(0);
        c.refuses(x, "too many and CLOSED", Check.ARGUMENT, () -> x.write(0, MOST + 1));
    }

    private static void starveNone() {
        Disc x = new Disc();
        c.refuses(x, "TRACK 0 of none", Check.INDEX, () -> x.starve(0));
        x.session();
        x.track(1, 4);
        c.refuses(x, "TRACK 1 of 1", Check.INDEX, () -> x.starve(1));
        for (int track : NO_INDEXES) {
            c.refuses(x, "TRACK " + track, Check.INDEX, () -> x.starve(track));
        }
        c.due("TRACK 0 of 1", 6, x.starve(0));
    }

    private static void starveClosed() {
        Disc x = Disc.opened(1, 4);
        x.track(1, 4);
        x.close(0);
        c.refuses(x, "4 are not WRITTEN", Check.STATE, () -> x.starve(0));
        x.close(1);
        c.refuses(x, "all were given back", Check.STATE, () -> x.starve(1));
    }

    private static void starveFull() {
        Disc x = Disc.opened(1, 1);
        x.write(0, 1);
        c.refuses(x, "all are WRITTEN", Check.STATE, () -> x.starve(0));
        x.track(0, 1);
        x.starve(1);
        c.refuses(x, "all are left", Check.STATE, () -> x.starve(1));
        c.due("CALIBRATIONS are left", 2, x.many(3));
    }

    private static void starveWithout() {
        Disc x = Disc.opened(1, 9);
        for (int k = 0; k < 3; k++) {
            c.due("with " + (3 - k), 6 + k, x.starve(0));
        }
        c.due("CALIBRATIONS", 0, x.many(3));
        c.refuses(x, "with none", Check.STATE, () -> x.starve(0));
        c.due("it can be WRITTEN without", 9, x.write(0, 1));
    }

    private static void starveLeaves() {
        Disc x = Disc.opened(1, 3);
        c.due("the first is left", 6, x.starve(0));
        c.due("the next one is WRITTEN", 7, x.write(0, 5));
        c.due("it is BLANK", 0, x.ofSector(6, 1));
        c.due("it is LOST", 2, x.ofSector(6, 3));
        c.due("it is of the TRACK", 0, x.ofSector(6, 0));
        c.due("a LINK", 1, x.ofTrack(0, 5));
        c.due("it is not WRITTEN", 1, x.ofTrack(0, 4));
        c.due("nor met", 1, x.scratch(0, 29, 0, 359));
        c.due("nor changed", 0, x.rot(0));
        c.due("still BLANK", -1, x.nibbles(6, false));
    }

    private static void starveUses() {
        Disc x = Disc.opened(0, 3);
        c.due("a SESSION has used one", 3, x.many(3));
        x.starve(0);
        c.due("a LINK has used one", 2, x.many(3));
        x.starve(0);
        c.due("another LINK", 1, x.many(3));
        x.write(0, 1);
        c.due("what is WRITTEN uses none", 1, x.many(3));
    }

    private static void starveTheLast() {
        Disc x = Disc.filledTo(237);
        x.track(0, 1);
        c.due("the last one of the DISC", 239, x.starve(6));
        c.due("none is given back", 0, x.close(6));
        c.due("NEXT", 240, x.many(2));
    }

    private static void starveOrder() {
        Disc x = Disc.opened(1, 9);
        for (int k = 0; k < 3; k++) {
            x.starve(0);
        }
        c.refuses(x, "no TRACK and no CALIBRATION", Check.INDEX, () -> x.starve(1));
        x.close(0);
        c.refuses(x, "no TRACK, and CLOSED", Check.INDEX, () -> x.starve(-1));
    }

    private static void closeNone() {
        Disc x = new Disc();
        c.refuses(x, "TRACK 0 of none", Check.INDEX, () -> x.close(0));
        x.session();
        x.track(1, 4);
        c.refuses(x, "TRACK 1 of 1", Check.INDEX, () -> x.close(1));
        for (int track : NO_INDEXES) {
            c.refuses(x, "TRACK " + track, Check.INDEX, () -> x.close(track));
        }
        c.due("TRACK 0 of 1", 4, x.close(0));
    }

    private static void closeTwice() {
        Disc x = Disc.opened(1, 4);
        x.track(1, 4);
        x.close(0);
        c.refuses(x, "not the last", Check.STATE, () -> x.close(0));
        x.write(1, 1);
        x.close(1);
        c.refuses(x, "the last", Check.STATE, () -> x.close(1));
        x.end();
        c.refuses(x, "of a CLOSED SESSION", Check.STATE, () -> x.close(1));
    }

    private static void closeGives() {
        Disc x = Disc.opened(1, 4);
        c.due("all, as none is WRITTEN", 4, x.close(0));
        c.due("it has none", 0, x.ofTrack(0, 3));
        x.track(0, 4);
        x.write(1, 1);
        c.due("3, as one is WRITTEN", 3, x.close(1));
        c.due("it has one", 1, x.ofTrack(1, 3));
        x.track(1, 4);
        x.write(2, 1);
        x.starve(2);
        c.due("2, as one is left", 2, x.close(2));
        c.due("it has two", 2, x.ofTrack(2, 3));
        x.track(1, 2);
        x.write(3, 1);
        x.write(3, 1);
        c.due("none, as all are WRITTEN", 0, x.close(3));
        c.due("it has all", 2, x.ofTrack(3, 3));
        x.track(1, 1);
        x.starve(4);
        c.due("none, as all are left", 0, x.close(4));
        c.due("it has what is left", 1, x.ofTrack(4, 3));
        c.due("a LINK stays", 1, x.ofTrack(4, 5));
    }

    private static void closeNotTheLast() {
        Disc x = Disc.opened(1, 4);
        x.track(0, 4);
        x.track(1, 4);
        c.due("the first", 0, x.close(0));
        c.due("the last", 4, x.close(2));
        c.due("the last that is open, but not the last", 0, x.close(1));
        c.due("the first has all", 4, x.ofTrack(0, 3));
        c.due("the second has all", 4, x.ofTrack(1, 3));
        c.due("NEXT is where the last was", 18, x.many(2));
    }

    private static void closeMovesNext() {
        Disc x = Disc.opened(1, 4);
        x.write(0, 1);
        c.due("NEXT", 10, x.many(2));
        x.close(0);
        c.due("behind the one", 7, x.many(2));
        x.track(1, 4);
        x.close(1);
        c.due("behind a GAP and nothing", 9, x.many(2));
        c.due("a GAP stays", -1, x.ofSector(8, 0));
        x.track(0, 2);
        x.starve(2);
        x.write(2, 1);
        x.close(2);
        c.due("behind all of it", 13, x.many(2));
        c.due("the END behind it", 15, x.end());
    }

    private static void closeLeavesBlank() {
        Disc x = Disc.opened(1, 3);
        x.track(1, 3);
        x.write(0, 1);
        x.close(0);
        c.due("RESERVED", 0, x.ofSector(8, 0));
        c.due("BLANK", 0, x.ofSector(8, 1));
        c.due("LOST", 2, x.ofSector(8, 3));
        c.due("it has 3", 3, x.ofTrack(0, 3));
        c.due("NEXT stays", 14, x.many(2));
        c.due("a FILE can be there", 0, x.file(0, 6, 3));
    }

    private static void endOfNone() {
        Disc x = new Disc();
        c.refuses(x, "there was none", Check.STATE, x::end);
        x.session();
        x.end();
        c.refuses(x, "it is CLOSED", Check.STATE, x::end);
        x.session();
        c.due("another one is open", 12, x.end());
    }

    private static void endWithOpenTrack() {
        Disc x = Disc.opened(0, 2);
        c.refuses(x, "the only one", Check.STATE, x::end);
        x.write(0, 1);
        x.write(0, 1);
        c.refuses(x, "all WRITTEN, but open", Check.STATE, x::end);
        x.track(1, 2);
        x.close(0);
        c.refuses(x, "the last one", Check.STATE, x::end);
        x.track(1, 2);
        x.close(2);
        c.refuses(x, "not the last one", Check.STATE, x::end);
        x.close(1);
        c.due("all are CLOSED", 16, x.end());
    }

    private static void endWithoutRoom() {
        Disc fits = Disc.filledTo(238);
        c.due("just 2 are left", 240, fits.end());
        Disc one = Disc.filledTo(239);
        c.refuses(one, "1 is left", Check.STATE, one::end);
        Disc none = Disc.filledTo(240);
        c.refuses(none, "none is left", Check.STATE, none::end);
    }

    private static void endAtTheEnd() {
        Disc x = Disc.filledTo(238);
        c.due("NEXT is behind the last", 240, x.end());
        c.due("it is NEXT", 240, x.many(2));
        Disc y = Disc.filledTo(217);
        c.due("NEXT", 219, y.end());
        c.due("it is NEXT", 219, y.many(2));
    }

    private static void endWithoutTrack() {
        Disc x = new Disc();
        x.session();
        c.due("a LEAD and an END", 6, x.end());
        c.due("none is open", 0, x.many(10));
        c.due("there is one", 1, x.many(0));
        c.due("the END is of no TRACK", -1, x.ofSector(5, 0));
    }

    private static void fileNumbers() {
        Disc x = Disc.opened(1, 4);
        for (int file : new int[] {-1, 10, Integer.MIN_VALUE, Integer.MAX_VALUE}) {
            c.refuses(x, "FILE " + file, Check.INDEX, () -> x.file(file, 6, 1));
        }
        c.due("FILE 0", 0, x.file(0, 6, 1));
        c.due("FILE 9", 0, x.file(9, 7, 1));
        c.due("FILE 0 is told", 6, x.ofFile(0, 0, 0));
        c.due("FILE 9 is told", 7, x.ofFile(9, 0, 0));
        c.due("FILE 8 is not", -1, x.ofFile(8, 0, 0));
    }

    private static void fileFirsts() {
        Disc x = Disc.filledTo(217);
        x.track(1, 21);
        for (int first : new int[] {-1, 240, Integer.MIN_VALUE, Integer.MAX_VALUE}) {
            c.refuses(x, "first " + first, Check.ARGUMENT, () -> x.file(0, first, 1));
            c.refuses(x, "20 from " + first, Check.ARGUMENT, () -> x.file(0, first, 20));
        }
        c.refuses(x, "0 is of a LEAD", Check.ARGUMENT, () -> x.file(0, 0, 1));
        c.due("239", 6, x.file(0, 239, 1));
        c.due("20 up to 239", 6, x.file(1, 220, 20));
    }

    private static void fileLengths() {
        Disc x = Disc.opened(1, 40);
        for (int length : new int[] {0, 21, -1, 40, Integer.MIN_VALUE, Integer.MAX_VALUE, Integer.MAX_VALUE - 5}) {
            c.refuses(x, "length " + length, Check.ARGUMENT, () -> x.file(0, 6, length));
            c.refuses(x, "length " + length + " from amid", Check.ARGUMENT, () -> x.file(0, 25, length));
        }
        c.due("length 1", 0, x.file(0, 6, 1));
        c.due("length 20", 0, x.file(1, 6, 20));
        c.due("1", 1, x.ofFile(0, 0, 1));
        c.due("20", 20, x.ofFile(1, 0, 1));
    }

    private static void fileNotWhole() {
        Disc x = Disc.opened(1, 10);
        x.track(0, 4);
        x.track(1, 4);
        int[] firsts = {3, 4, 5, 5, 15, 16, 6, 18, 17, 20, 23, 27, 28, 28, 239, 239};
        int[] lengths = {1, 1, 1, 2, 2, 1, 20, 1, 4, 5, 2, 2, 1, 2, 1, 20};
        for (int k = 0; k < firsts.length; k++) {
            int first = firsts[k];
            int length = lengths[k];
            c.refuses(x, length + " from " + first, Check.ARGUMENT, () -> x.file(0, first, length));
        }
        c.due("the whole first TRACK", 0, x.file(0, 6, 10));
        c.due("its last SECTOR", 0, x.file(0, 15, 1));
        c.due("the whole third TRACK", 2, x.file(0, 24, 4));
        c.due("its first SECTOR", 2, x.file(0, 24, 1));
        Disc y = Disc.filledTo(237);
        y.track(1, 1);
        c.refuses(y, "the last SECTOR and one beyond the DISC", Check.ARGUMENT, () -> y.file(0, 239, 2));
    }

    private static void fileReserved() {
        Disc x = Disc.opened(1, 6);
        x.starve(0);
        x.write(0, 1);
        c.due("a LINK, a WRITTEN one and RESERVED ones", 0, x.file(0, 6, 6));
        x.close(0);
        c.refuses(x, "one that was given back", Check.ARGUMENT, () -> x.file(1, 7, 2));
        c.refuses(x, "just that", Check.ARGUMENT, () -> x.file(1, 8, 1));
        c.due("of a CLOSED TRACK", 0, x.file(1, 6, 2));
        x.end();
        x.session();
        c.due("of a CLOSED SESSION", 0, x.file(2, 6, 2));
        c.due("told for the open one", -1, x.ofFile(2, 0, 0));
        c.due("seen from it", 6, x.ofFile(2, 1, 0));
    }

    private static void fileStaysTold() {
        Disc x = Disc.opened(1, 6);
        x.write(0, 1);
        x.file(0, 6, 6);
        x.file(1, 9, 3);
        x.close(0);
        c.due("its first SECTOR stays", 6, x.ofFile(0, 0, 0));
        c.due("its length stays", 6, x.ofFile(0, 0, 1));
        c.due("one is GOOD", 1, x.ofFile(0, 0, 2));
        c.due("one that is given back whole", 9, x.ofFile(1, 0, 0));
        c.due("its length", 3, x.ofFile(1, 0, 1));
        c.due("none is GOOD", 0, x.ofFile(1, 0, 2));
        x.track(0, 4);
        x.write(1, 1);
        x.write(1, 1);
        c.due("of a SOUND TRACK now, GOOD", 2, x.ofFile(1, 0, 2));
        c.due("3 of 6 are GOOD", 3, x.ofFile(0, 0, 2));
        Disc y = Disc.opened(1, 6);
        y.file(9, 6, 6);
        c.due("the TRACK gives all back", 6, y.close(0));
        c.due("first", 6, y.ofFile(9, 0, 0));
        c.due("length", 6, y.ofFile(9, 0, 1));
        c.due("GOOD", 0, y.ofFile(9, 0, 2));
    }

    private static void fileWithoutSession() {
        Disc x = Disc.opened(1, 6);
        x.write(0, 1);
        x.close(0);
        x.end();
        c.refuses(x, "the SESSION is CLOSED", Check.STATE, () -> x.file(0, 6, 1));
        x.session();
        c.due("another one is open", 0, x.file(0, 6, 1));
    }

    private static void fileInLastTrack() {
        Disc x = new Disc();
        x.session();
        for (int t = 0; t < 8; t++) {
            x.track(1, 2);
        }
        c.due("the last TRACK", 7, x.file(0, 34, 2));
        c.due("the first TRACK", 0, x.file(0, 6, 2));
    }

    private static void fileOrder() {
        Disc x = new Disc();
        c.refuses(x, "FILE 10, first -1, no SESSION", Check.INDEX, () -> x.file(10, -1, 1));
        c.refuses(x, "FILE -1, length 0, no SESSION", Check.INDEX, () -> x.file(-1, 6, 0));
        c.refuses(x, "no TRACK, no SESSION", Check.ARGUMENT, () -> x.file(0, 6, 1));
        c.refuses(x, "first 240, no SESSION", Check.ARGUMENT, () -> x.file(0, 240, 1));
        c.refuses(x, "length 21, no SESSION", Check.ARGUMENT, () -> x.file(0, 6, 21));
        x.session();
        c.refuses(x, "FILE 10, no TRACK", Check.INDEX, () -> x.file(10, 6, 1));
    }
}
