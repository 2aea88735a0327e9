/** Boundary cases of the promise 25, and of how a SECTOR is MENDED. */
public final class MendEdgesTest {
    private static final long MOST = 68719476735L;
    private static final long SOME = 0x123456789L;
    private static final int SOUND = 0;
    private static final int DATA = 1;
    private static final Edges e = new Edges("MendEdgesTest");
    private static final Check c = e.check;

    public static void main(String[] args) {
        e.edge(25, "sector is not 0 to 239", MendEdgesTest::sectors);
        e.edge(25, "set is not 0 to 65535", MendEdgesTest::sets);
        e.edge(25, Edges.ORDER, MendEdgesTest::order);
        e.edge(25, "(2 of a BLANK one)", MendEdgesTest::blankOnes);
        e.edge(25, "(nothing is changed)", MendEdgesTest::nothingIsChanged);
        e.edge(25, "what it would be, if these were ERASED, too", MendEdgesTest::erasedOnesToo);
        e.edge(25, "(each time anew, on a copy)", MendEdgesTest::onACopy);
        e.edge(25, "where just one PLACE is ERASED in that row (column)", MendEdgesTest::justOneInALine);
        e.edge(25, "from the row 0 to 3, then the column 0 to 3", MendEdgesTest::rowsFirst);
        e.edge(25, "until a whole round changes nothing", MendEdgesTest::rounds);
        e.edge(25, "If any is ERASED then, the SECTOR is LOST.", MendEdgesTest::someAreLeft);
        e.edge(25, "with just one row whose exclusive or is not 0 and just one column whose is not 0",
            MendEdgesTest::oneWrong);
        e.edge(25, "the PLACE where they cross becomes exclusive or that number", MendEdgesTest::whereTheyCross);
        e.edge(25, "it is GOOD, if all rows and columns are 0", MendEdgesTest::moreThanOne);
        e.edge(25, "(in a DATA track alone) SUM fits the NIBBLES that come out; otherwise BAD", MendEdgesTest::sums);
        e.edge(25, "SUM is the sum of (k and 1) times NIBBLE k, modulo 251", MendEdgesTest::sumsWrapAround);
        e.edge(25, "it is kept apart, and nothing happens to it", MendEdgesTest::sumsAreKept);
        e.finish(25);
    }

    /** The SECTORS 6 and 7 are WRITTEN, 8 and 9 RESERVED. */
    private static Disc twoWritten(int mode) {
        Disc x = Disc.opened(mode, 4);
        x.write(0, 0);
        x.write(0, SOME);
        return x;
    }

    /** Each ROT meets the SECTOR 60, so that any PLACE of it can be made any value. */
    private static Disc writtenAt60(int mode, long nibbles) {
        Disc x = new Disc();
        x.session();
        x.track(mode, 40);
        x.track(mode, 40);
        for (int s = 48; s <= 60; s++) {
            x.write(1, nibbles);
        }
        return x;
    }

    private static void makeWrong(Disc x, int place, int by) {
        for (int r = 0; r < 240; r++) {
            if ((60 * 7 + r) % 16 == place && r % 15 + 1 == by) {
                x.rot(r);
            }
        }
    }

    private static int set(int... places) {
        int all = 0;
        for (int place : places) {
            all |= 1 << place;
        }
        return all;
    }

    private static void sectors() {
        Disc x = twoWritten(DATA);
        for (int sector : new int[] {-1, 240, 241, Integer.MIN_VALUE, Integer.MAX_VALUE}) {
            c.refuses(x, "SECTOR " + sector, Check.INDEX, () -> x.wouldMend(sector, 0));
        }
        c.due("SECTOR 0", 2, x.wouldMend(0, 0));
        c.due("SECTOR 239", 2, x.wouldMend(239, 0));
        c.due("SECTOR 6", 0, x.wouldMend(6, 0));
        Disc last = Disc.filledTo(237);
        last.track(DATA, 1);
        last.write(6, SOME);
        c.due("SECTOR 239, that is WRITTEN", 0, last.wouldMend(239, 1));
    }

    private static void sets() {
        Disc x = twoWritten(DATA);
        for (int set : new int[] {-1, 65536, 131072, Integer.MIN_VALUE, Integer.MAX_VALUE}) {
            c.refuses(x, "set " + set, Check.ARGUMENT, () -> x.wouldMend(6, set));
            c.refuses(x, "set " + set + " of a BLANK one", Check.ARGUMENT, () -> x.wouldMend(8, set));
        }
        c.due("no PLACE", 0, x.wouldMend(6, 0));
        c.due("all PLACES", 2, x.wouldMend(6, 65535));
        c.due("the PLACE 15 alone", 0, x.wouldMend(6, 32768));
    }

    private static void order() {
        Disc x = twoWritten(DATA);
        c.refuses(x, "240 and -1", Check.INDEX, () -> x.wouldMend(240, -1));
        c.refuses(x, "-1 and 65536", Check.INDEX, () -> x.wouldMend(-1, 65536));
    }

    private static void blankOnes() {
        Disc x = twoWritten(SOUND);
        x.starve(0);
        for (int sector : new int[] {0, 5, 8, 9, 239}) {
            c.due(sector + " without a PLACE", 2, x.wouldMend(sector, 0));
            c.due(sector + " with one", 2, x.wouldMend(sector, 1));
            c.due(sector + " with all", 2, x.wouldMend(sector, 65535));
        }
    }

    private static void nothingIsChanged() {
        Disc x = twoWritten(DATA);
        String before = x.snapshot();
        c.due("LOST", 2, x.wouldMend(7, 65535));
        c.due("GOOD", 0, x.wouldMend(7, set(4, 5, 6, 7)));
        c.due("as before", before, x.snapshot());
    }

    private static void erasedOnesToo() {
        Disc x = twoWritten(DATA);
        x.scratch(1, 1, 60, 359);
        c.due("the column 1 is ERASED", 0, x.wouldMend(7, 0));
        c.due("the same once more", 0, x.wouldMend(7, set(1, 5, 9, 13)));
        c.due("one PLACE more", 0, x.wouldMend(7, set(0)));
        c.due("two more in a column", 2, x.wouldMend(7, set(0, 4)));
        c.due("two more aslant", 0, x.wouldMend(7, set(0, 6)));
        c.due("none of these is ERASED", 4, x.ofSector(7, 2));
    }

    private static void onACopy() {
        Disc x = writtenAt60(DATA, SOME);
        makeWrong(x, 0, 3);
        c.due("GOOD", 0, x.read(60));
        c.due("MENDED", SOME, x.nibbles(60, true));
        c.due("WRONG yet", SOME ^ 3, x.nibbles(60, false));
        makeWrong(x, 5, 3);
        c.due("BAD, as the first one was not righted for good", 1, x.ofSector(60, 3));
        makeWrong(x, 0, 3);
        c.due("GOOD again", 0, x.ofSector(60, 3));
        Disc y = twoWritten(DATA);
        y.scratch(1, 1, 60, 359);
        c.due("GOOD without a column", 0, y.read(7));
        c.due("ERASED yet", -1, y.place(7, 1));
        y.scratch(1, 1, 59, 358);
        c.due("LOST, as the first column was not filled for good", 2, y.read(7));
    }

    private static void justOneInALine() {
        Disc x = twoWritten(DATA);
        for (int place = 0; place < 16; place++) {
            c.due("the PLACE " + place, 0, x.wouldMend(7, set(place)));
        }
        for (int line = 0; line < 4; line++) {
            c.due("the row " + line + ", by its columns", 0, x.wouldMend(7, 15 << 4 * line));
            c.due("the column " + line + ", by its rows", 0, x.wouldMend(7, 0x1111 << line));
        }
        c.due("two in a row", 0, x.wouldMend(7, set(0, 3)));
        c.due("two in a column", 0, x.wouldMend(7, set(3, 15)));
        c.due("two in two rows and two columns each", 2, x.wouldMend(7, set(0, 3, 12, 15)));
        c.due("three of these", 0, x.wouldMend(7, set(0, 3, 12)));
        c.due("a row and a column", 0, x.wouldMend(7, set(0, 1, 2, 3, 7, 11, 15)));
    }

    /** The PLACE 10 is WRONG: what fills from it is WRONG, too. */
    private static void rowsFirst() {
        Disc x = writtenAt60(SOUND, SOME);
        makeWrong(x, 10, 1);
        c.due("8 fills from its row, that has the WRONG one", 1, x.wouldMend(60, set(8)));
        c.due("11, too", 1, x.wouldMend(60, set(11)));
        c.due("2 fills from its row, not from the column that has it", 0, x.wouldMend(60, set(2)));
        c.due("14, too", 0, x.wouldMend(60, set(14)));
        c.due("8, 9 and 11 fill from their columns", 0, x.wouldMend(60, set(8, 9, 11)));
        c.due("the row 0 fills from its columns, of which one has it", 1, x.wouldMend(60, set(0, 1, 2, 3)));
        c.due("12 fills from its row, ahead of the column 0", 0, x.wouldMend(60, set(12)));
    }

    private static void rounds() {
        Disc x = twoWritten(DATA);
        c.due("no round changes anything", 0, x.wouldMend(7, 0));
        c.due("one round: two PLACES aslant", 0, x.wouldMend(7, set(0, 5)));
        c.due("a column behind a row", 0, x.wouldMend(7, set(0, 4, 5)));
        c.due("stairs of 7, in two rounds", 0, x.wouldMend(7, set(0, 1, 5, 6, 10, 11, 15)));
        c.due("stairs of 7 from another corner", 0, x.wouldMend(7, set(12, 8, 9, 5, 6, 2, 3)));
        c.due("stairs of 6 from column to column", 0, x.wouldMend(7, set(0, 1, 5, 6, 10, 11)));
        c.due("stairs that meet", 2, x.wouldMend(7, set(0, 1, 5, 6, 10, 11, 15, 12)));
    }

    private static void someAreLeft() {
        Disc x = twoWritten(SOUND);
        c.due("four corners", 2, x.wouldMend(7, set(5, 6, 9, 10)));
        c.due("four corners, and one that fills", 2, x.wouldMend(7, set(5, 6, 9, 10, 0)));
        c.due("two rows", 2, x.wouldMend(7, 0xFF00));
        c.due("two columns", 2, x.wouldMend(7, 0x3333));
        Disc y = writtenAt60(SOUND, SOME);
        makeWrong(y, 15, 1);
        c.due("four corners, and a WRONG one", 2, y.wouldMend(60, set(0, 1, 4, 5)));
        c.due("just the WRONG one", 0, y.wouldMend(60, set(15)));
    }

    private static void oneWrong() {
        for (int place = 0; place < 16; place++) {
            Disc x = writtenAt60(DATA, SOME);
            int was = x.place(60, place);
            makeWrong(x, place, place % 15 + 1);
            c.due("the PLACE " + place + " is WRONG", was ^ place % 15 + 1, x.place(60, place));
            c.due("and comes out right", SOME, x.nibbles(60, true));
            c.due("GOOD", 0, x.ofSector(60, 3));
        }
        Disc row = writtenAt60(DATA, SOME);
        makeWrong(row, 0, 5);
        makeWrong(row, 1, 5);
        c.due("no row and two columns", 1, row.ofSector(60, 3));
        c.due("as they are", SOME ^ 0x55, row.nibbles(60, true));
        makeWrong(row, 1, 2);
        c.due("one row and two columns", 1, row.ofSector(60, 3));
        c.due("as they are", SOME ^ 0x75, row.nibbles(60, true));
        Disc column = writtenAt60(DATA, SOME);
        makeWrong(column, 2, 5);
        makeWrong(column, 6, 5);
        c.due("two rows and no column", 1, column.ofSector(60, 3));
        makeWrong(column, 6, 2);
        c.due("two rows and one column", 1, column.ofSector(60, 3));
        c.due("as they are", SOME ^ 0x700500L, column.nibbles(60, true));
    }

    /** Three WRONG ones look like one at their fourth corner, that becomes WRONG, too. */
    private static void whereTheyCross() {
        Disc sound = writtenAt60(SOUND, SOME);
        Disc data = writtenAt60(DATA, SOME);
        for (int place : new int[] {1, 4, 5}) {
            makeWrong(sound, place, 9);
            makeWrong(data, place, 9);
        }
        c.due("the fourth comes out WRONG", SOME ^ 0x99099L, sound.nibbles(60, true));
        c.due("GOOD, of SOUND", 0, sound.ofSector(60, 3));
        c.due("the fourth comes out WRONG, of DATA", SOME ^ 0x99099L, data.nibbles(60, true));
        c.due("BAD, of DATA", 1, data.ofSector(60, 3));
    }

    private static void moreThanOne() {
        Disc x = writtenAt60(SOUND, SOME);
        makeWrong(x, 0, 7);
        makeWrong(x, 5, 12);
        c.due("two rows and two columns", 1, x.ofSector(60, 3));
        c.due("none of the two is made right", SOME ^ 0xC0007L, x.nibbles(60, true));
        c.due("one of them is ERASED, too", 0, x.wouldMend(60, set(0)));
        c.due("both are ERASED", 0, x.wouldMend(60, set(0, 5)));
        makeWrong(x, 5, 12);
        c.due("one is right again", 0, x.ofSector(60, 3));
    }

    /** Rows and columns are 0, but other NIBBLES come out: the SUM alone can tell. */
    private static void sums() {
        int corners = set(1, 4, 5);
        Disc sound = writtenAt60(SOUND, SOME);
        makeWrong(sound, 0, 7);
        c.due("SOUND: a SUM is not asked for", 0, sound.wouldMend(60, corners));
        Disc data = writtenAt60(DATA, SOME);
        makeWrong(data, 0, 7);
        c.due("DATA: the SUM does not fit", 1, data.wouldMend(60, corners));
        c.due("DATA: the SUM fits", 0, data.wouldMend(60, 0));
    }

    private static Disc turnedInto(long from, long into) {
        Disc x = writtenAt60(DATA, from);
        Disc other = writtenAt60(DATA, into);
        for (int place = 0; place < 16; place++) {
            makeWrong(x, place, x.place(60, place) ^ other.place(60, place));
        }
        c.due("it comes out", into, x.nibbles(60, true));
        return x;
    }

    private static void sumsWrapAround() {
        c.due("251 is as 0", 0, turnedInto(0, 0xFE0001000L).ofSector(60, 3));
        c.due("252 is not", 1, turnedInto(0, 0xFE0001001L).ofSector(60, 3));
        c.due("250 is not", 1, turnedInto(0, 0xFE0000011L).ofSector(60, 3));
        c.due("1 is not", 1, turnedInto(0, 1).ofSector(60, 3));
        c.due("the NIBBLE 0 as often as 2 is as the NIBBLE 1", 0, turnedInto(2, 0x10L).ofSector(60, 3));
        c.due("the NIBBLE 8 counts 9 times", 0, turnedInto(0x100000000L, 9).ofSector(60, 3));
        c.due("675, the most, is as 173", 0, turnedInto(MOST, 0xF40100000L).ofSector(60, 3));
        c.due("it is not as 172", 1, turnedInto(MOST, 0xF40010000L).ofSector(60, 3));
    }

    private static void sumsAreKept() {
        Disc x = writtenAt60(DATA, SOME);
        Disc other = writtenAt60(DATA, 0);
        int[] by = new int[16];
        for (int place = 0; place < 16; place++) {
            by[place] = x.place(60, place) ^ other.place(60, place);
            makeWrong(x, place, by[place]);
        }
        c.due("another SUM comes out", 1, x.ofSector(60, 3));
        for (int place = 0; place < 16; place++) {
            makeWrong(x, place, by[place]);
        }
        c.due("the SUM that was WRITTEN fits again", 0, x.ofSector(60, 3));
        c.due("what was WRITTEN comes out", SOME, x.nibbles(60, true));
    }
}
