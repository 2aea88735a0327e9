/** Promises 1 to 8: a new object, and what is written. */
public final class WritingTest {
    private static final long MOST = 68719476735L;
    private static final Check c = new Check("WritingTest");

    public static void main(String[] args) {
        newObject();
        sessionOpens();
        sessionRefuses();
        sessionNeedsFourSectors();
        trackOpens();
        trackRefuses();
        eightTracks();
        trackNeedsItsGap();
        writeWrites();
        writeRefuses();
        starves();
        starveRefuses();
        closeGivesBack();
        closeRefuses();
        endCloses();
        endRefuses();
        fileTells();
        fileRefuses();
        fileStaysTold();
        c.finish();
    }

    private static void newObject() {
        Disc x = new Disc();
        int[] many = {0, 0, 0, 4, 0, 0, 0, 0, 0, 0, 0, 0, 0};
        for (int what = 0; what < many.length; what++) {
            c.due("1 many " + what, many[what], x.many(what));
        }
        c.due("1 clock", 0.0, x.clock());
        Disc asked = new Disc();
        for (int s = 0; s < 240; s++) {
            c.due("1 of no TRACK " + s, -1, asked.ofSector(s, 0));
            c.due("1 BLANK " + s, 0, asked.ofSector(s, 1));
            c.due("1 LOST " + s, 2, x.ofSector(s, 3));
        }
        Disc other = new Disc();
        other.session();
        c.due("1 objects have nothing in common", 0, x.many(0));
    }

    private static void sessionOpens() {
        Disc x = new Disc();
        c.due("2 the first", 0, x.session());
        c.due("2 NEXT behind the LEAD", 4, x.many(2));
        c.due("2 a CALIBRATION is used", 3, x.many(3));
        c.due("2 it is open", 1, x.many(10));
        c.due("2 SESSIONS", 1, x.many(0));
        x.end();
        c.due("2 the second", 1, x.session());
        c.due("2 NEXT behind the second LEAD", 10, x.many(2));
        x.end();
        c.due("2 the third", 2, x.session());
        c.due("2 CALIBRATIONS", 1, x.many(3));
    }

    private static void sessionRefuses() {
        Disc x = new Disc();
        x.session();
        c.refuses(x, "2 one is open", Check.STATE, x::session);
        x.end();
        x.session();
        x.end();
        x.session();
        x.end();
        c.due("2 a CALIBRATION is left", 1, x.many(3));
        c.refuses(x, "2 there are 3", Check.STATE, x::session);

        Disc starved = new Disc();
        starved.session();
        starved.track(0, 5);
        for (int k = 0; k < 3; k++) {
            starved.starve(0);
        }
        starved.close(0);
        starved.end();
        c.refuses(starved, "2 no CALIBRATION", Check.STATE, starved::session);
    }

    private static void sessionNeedsFourSectors() {
        Disc fits = Disc.filledTo(234);
        c.due("7 end at", 236, fits.end());
        c.due("2 just 4 SECTORS are left", 1, fits.session());
        c.due("2 NEXT is at the end", 240, fits.many(2));
        c.refuses(fits, "7 none is left for the END", Check.STATE, fits::end);
        Disc full = Disc.filledTo(235);
        c.due("7 end at", 237, full.end());
        c.refuses(full, "2 3 SECTORS are left", Check.STATE, full::session);
        Disc none = Disc.filledTo(238);
        c.due("7 end at", 240, none.end());
        c.refuses(none, "2 no SECTOR is left", Check.STATE, none::session);
    }

    private static void trackOpens() {
        Disc x = new Disc();
        x.session();
        c.due("3 the first SECTOR", 6, x.track(0, 1));
        c.due("3 NEXT", 7, x.many(2));
        c.due("3 behind it", 9, x.track(1, 40));
        c.due("3 NEXT", 49, x.many(2));
        c.due("3 TRACKS", 2, x.many(1));
        c.due("3 SOUND", 0, x.ofTrack(0, 1));
        c.due("3 DATA", 1, x.ofTrack(1, 1));
        c.due("3 RESERVED", 40, x.ofTrack(1, 3));
        c.due("3 nobody has the GAP", -1, x.ofSector(8, 0));
        c.due("3 RESERVED is of the TRACK", 1, x.ofSector(48, 0));
    }

    private static void trackRefuses() {
        Disc x = new Disc();
        c.refuses(x, "3 no SESSION", Check.STATE, () -> x.track(0, 1));
        c.refuses(x, "3 mode ahead of no SESSION", Check.ARGUMENT, () -> x.track(2, 1));
        x.session();
        c.refuses(x, "3 mode -1", Check.ARGUMENT, () -> x.track(-1, 1));
        c.refuses(x, "3 mode 2", Check.ARGUMENT, () -> x.track(2, 1));
        c.refuses(x, "3 mode least", Check.ARGUMENT, () -> x.track(Integer.MIN_VALUE, 1));
        c.refuses(x, "3 0 SECTORS", Check.ARGUMENT, () -> x.track(0, 0));
        c.refuses(x, "3 41 SECTORS", Check.ARGUMENT, () -> x.track(1, 41));
        c.refuses(x, "3 most SECTORS", Check.ARGUMENT, () -> x.track(1, Integer.MAX_VALUE));
        c.refuses(x, "3 least SECTORS", Check.ARGUMENT, () -> x.track(1, Integer.MIN_VALUE));
        x.end();
        c.refuses(x, "3 the SESSION is CLOSED", Check.STATE, () -> x.track(0, 1));
    }

    private static void eightTracks() {
        Disc x = new Disc();
        x.session();
        for (int t = 0; t < 4; t++) {
            x.track(0, 1);
            x.close(t);
        }
        x.end();
        x.session();
        for (int t = 4; t < 8; t++) {
            x.track(1, 1);
        }
        c.due("3 8 TRACKS", 8, x.many(1));
        c.due("20 the SESSION of the last", 1, x.ofTrack(7, 0));
        c.refuses(x, "3 there are 8", Check.STATE, () -> x.track(0, 1));
        c.refuses(x, "3 41 ahead of 8", Check.ARGUMENT, () -> x.track(0, 41));
    }

    private static void trackNeedsItsGap() {
        Disc x = new Disc();
        x.session();
        for (int t = 0; t < 5; t++) {
            x.track(0, 40);
        }
        c.due("3 NEXT", 214, x.many(2));
        c.refuses(x, "3 25 SECTORS and 2 of 26", Check.STATE, () -> x.track(1, 25));
        c.due("3 24 SECTORS and 2 of 26", 216, x.track(1, 24));
        c.due("3 NEXT at the end", 240, x.many(2));
        c.refuses(x, "3 none is left", Check.STATE, () -> x.track(1, 1));
        c.due("6 given back at the end", 24, x.close(5));
        c.due("6 NEXT", 216, x.many(2));
        c.due("3 once more", 218, x.track(1, 22));
    }

    private static void writeWrites() {
        Disc x = new Disc();
        x.session();
        x.track(1, 2);
        x.track(0, 2);
        c.due("4 the first SECTOR", 6, x.write(0, 0));
        c.due("4 of the other TRACK", 10, x.write(1, MOST));
        c.due("4 the second one", 7, x.write(0, MOST));
        c.due("4 it is WRITTEN", 1, x.ofSector(7, 1));
        c.due("4 its NIBBLES", MOST, x.nibbles(7, false));
        c.due("4 it is GOOD", 0, x.ofSector(7, 3));
        c.due("4 the next one is not", 0, x.ofSector(8, 1));
        c.due("4 NEXT stays", 12, x.many(2));
        int[] block = {13, 4, 7, 14, 6, 1, 8, 15, 11, 10, 5, 4, 0, 15, 10, 5};
        for (int place = 0; place < 16; place++) {
            c.due("4 the BLOCK of 0 in 6 at " + place, block[place], x.place(6, place));
        }
    }

    private static void writeRefuses() {
        Disc x = new Disc();
        c.refuses(x, "4 no TRACK", Check.INDEX, () -> x.write(0, 0));
        x.session();
        x.track(1, 1);
        c.refuses(x, "4 TRACK -1", Check.INDEX, () -> x.write(-1, 0));
        c.refuses(x, "4 TRACK 1", Check.INDEX, () -> x.write(1, 0));
        c.refuses(x, "4 TRACK 8", Check.INDEX, () -> x.write(8, 0));
        c.refuses(x, "4 TRACK ahead of nibbles", Check.INDEX, () -> x.write(1, -1));
        c.refuses(x, "4 nibbles -1", Check.ARGUMENT, () -> x.write(0, -1));
        c.refuses(x, "4 nibbles too many", Check.ARGUMENT, () -> x.write(0, MOST + 1));
        c.refuses(x, "4 nibbles most", Check.ARGUMENT, () -> x.write(0, Long.MAX_VALUE));
        x.write(0, 0);
        c.refuses(x, "4 all are WRITTEN", Check.STATE, () -> x.write(0, 0));
        c.refuses(x, "4 nibbles ahead of all WRITTEN", Check.ARGUMENT, () -> x.write(0, -1));
        x.track(0, 2);
        x.starve(1);
        x.starve(1);
        c.refuses(x, "4 all are left", Check.STATE, () -> x.write(1, 0));
        x.track(0, 2);
        x.track(0, 2);
        x.close(2);
        c.refuses(x, "4 it is CLOSED and has SECTORS", Check.STATE, () -> x.write(2, 0));
    }

    private static void starves() {
        Disc x = new Disc();
        x.session();
        x.track(1, 3);
        x.write(0, 5);
        c.due("5 the SECTOR", 7, x.starve(0));
        c.due("5 CALIBRATIONS", 2, x.many(3));
        c.due("5 it is BLANK", 0, x.ofSector(7, 1));
        c.due("5 it is of the TRACK", 0, x.ofSector(7, 0));
        c.due("5 a LINK", 1, x.ofTrack(0, 5));
        c.due("5 WRITTEN", 1, x.ofTrack(0, 4));
        c.due("5 the next one", 8, x.write(0, 6));
        c.due("5 left for good", 0, x.ofSector(7, 1));
    }

    private static void starveRefuses() {
        Disc x = new Disc();
        c.refuses(x, "5 no TRACK", Check.INDEX, () -> x.starve(0));
        x.session();
        x.track(1, 1);
        c.refuses(x, "5 TRACK -1", Check.INDEX, () -> x.starve(-1));
        x.write(0, 5);
        c.refuses(x, "5 all are WRITTEN", Check.STATE, () -> x.starve(0));
        x.track(1, 2);
        x.track(1, 9);
        x.close(1);
        c.refuses(x, "5 it is CLOSED", Check.STATE, () -> x.starve(1));
        for (int k = 0; k < 3; k++) {
            c.due("5 starve " + k, 13 + k, x.starve(2));
        }
        c.refuses(x, "5 no CALIBRATION", Check.STATE, () -> x.starve(2));
        c.due("5 it can be WRITTEN yet", 16, x.write(2, 1));
    }

    private static void closeGivesBack() {
        Disc x = new Disc();
        x.session();
        x.track(1, 10);
        x.track(0, 10);
        x.track(1, 10);
        x.write(2, 1);
        x.starve(2);
        c.due("6 not the last one", 0, x.close(1));
        c.due("6 NEXT stays", 40, x.many(2));
        c.due("6 it has all", 10, x.ofTrack(1, 3));
        c.due("6 they stay its", 1, x.ofSector(27, 0));
        c.due("6 the last one", 8, x.close(2));
        c.due("6 NEXT", 32, x.many(2));
        c.due("6 it has", 2, x.ofTrack(2, 3));
        c.due("6 given back", -1, x.ofSector(32, 0));
        c.due("6 kept", 2, x.ofSector(31, 0));
        c.due("6 the first one is not the last", 0, x.close(0));
        c.due("6 NEXT stays", 32, x.many(2));
        c.due("3 in what was given back", 34, x.track(0, 1));
        c.due("6 none WRITTEN", 1, x.close(3));
        c.due("6 NEXT behind its GAP", 34, x.many(2));
        c.due("20 its first SECTOR for good", 34, x.ofTrack(3, 2));
        c.due("20 it has none", 0, x.ofTrack(3, 3));
        x.track(0, 1);
        x.write(4, 1);
        c.due("6 all WRITTEN", 0, x.close(4));
        c.due("6 CLOSED", 1, x.ofTrack(4, 6));
    }

    private static void closeRefuses() {
        Disc x = new Disc();
        c.refuses(x, "6 no TRACK", Check.INDEX, () -> x.close(0));
        x.session();
        x.track(1, 10);
        c.refuses(x, "6 TRACK 1", Check.INDEX, () -> x.close(1));
        c.refuses(x, "6 TRACK -1", Check.INDEX, () -> x.close(-1));
        x.close(0);
        c.refuses(x, "6 it is CLOSED", Check.STATE, () -> x.close(0));
    }

    private static void endCloses() {
        Disc x = new Disc();
        x.session();
        c.due("7 without TRACKS", 6, x.end());
        c.due("7 NEXT", 6, x.many(2));
        c.due("7 none is open", 0, x.many(10));
        c.due("7 SESSIONS", 1, x.many(0));
        x.session();
        x.track(0, 3);
        x.write(0, 1);
        x.close(0);
        c.due("7 with one", 15, x.end());
        c.due("7 nobody has the END", -1, x.ofSector(13, 0));
    }

    private static void endRefuses() {
        Disc x = new Disc();
        c.refuses(x, "7 none is open", Check.STATE, x::end);
        x.session();
        x.track(0, 3);
        x.track(0, 3);
        x.close(1);
        c.refuses(x, "7 a TRACK is open", Check.STATE, x::end);
        x.close(0);
        x.end();
        c.refuses(x, "7 it is CLOSED", Check.STATE, x::end);

        Disc full = new Disc();
        full.session();
        for (int t = 0; t < 5; t++) {
            full.track(0, 40);
            if (t > 0) {
                full.close(t - 1);
            }
        }
        full.track(0, 23);
        full.close(4);
        while (full.ofTrack(5, 4) < 23) {
            full.write(5, 0);
        }
        full.close(5);
        c.due("7 one SECTOR is left", 239, full.many(2));
        c.refuses(full, "7 fewer than 2", Check.STATE, full::end);
    }

    private static void fileTells() {
        Disc x = new Disc();
        x.session();
        x.track(0, 5);
        x.track(1, 30);
        c.due("8 the TRACK", 1, x.file(0, 13, 20));
        c.due("8 to its end", 1, x.file(9, 42, 1));
        c.due("8 told", 13, x.ofFile(0, 0, 0));
        c.due("8 told", 20, x.ofFile(0, 0, 1));
        c.due("8 told anew", 1, x.file(0, 20, 2));
        c.due("8 the last telling", 20, x.ofFile(0, 0, 0));
        c.due("8 the last telling", 2, x.ofFile(0, 0, 1));
        x.close(0);
        x.close(1);
        x.end();
        x.session();
        x.track(1, 1);
        c.due("8 in this SESSION", 2, x.file(1, 21, 1));
        c.due("8 seen from it", 21, x.ofFile(1, 1, 0));
        c.due("8 not from the one before", -1, x.ofFile(1, 0, 0));
    }

    private static void fileRefuses() {
        Disc x = new Disc();
        c.refuses(x, "8 no TRACK ahead of no SESSION", Check.ARGUMENT, () -> x.file(0, 6, 1));
        x.session();
        x.track(0, 5);
        x.track(1, 25);
        x.track(1, 25);
        c.refuses(x, "8 FILE -1", Check.INDEX, () -> x.file(-1, 13, 1));
        c.refuses(x, "8 FILE 10", Check.INDEX, () -> x.file(10, 13, 1));
        c.refuses(x, "8 FILE ahead of first", Check.INDEX, () -> x.file(10, -1, 0));
        c.refuses(x, "8 first -1", Check.ARGUMENT, () -> x.file(0, -1, 1));
        c.refuses(x, "8 first 240", Check.ARGUMENT, () -> x.file(0, 240, 1));
        c.refuses(x, "8 first most", Check.ARGUMENT, () -> x.file(0, Integer.MAX_VALUE, 20));
        c.refuses(x, "8 length 0", Check.ARGUMENT, () -> x.file(0, 13, 0));
        c.refuses(x, "8 length 21", Check.ARGUMENT, () -> x.file(0, 13, 21));
        c.refuses(x, "8 length most", Check.ARGUMENT, () -> x.file(0, 13, Integer.MAX_VALUE));
        c.refuses(x, "8 in a SOUND TRACK", Check.ARGUMENT, () -> x.file(0, 6, 1));
        c.refuses(x, "8 in a GAP", Check.ARGUMENT, () -> x.file(0, 12, 1));
        c.refuses(x, "8 over its end", Check.ARGUMENT, () -> x.file(0, 37, 2));
        c.refuses(x, "8 in two DATA TRACKS", Check.ARGUMENT, () -> x.file(0, 36, 6));
        c.refuses(x, "8 behind all", Check.ARGUMENT, () -> x.file(0, 239, 20));
        for (int t = 0; t < 3; t++) {
            x.close(t);
        }
        c.refuses(x, "8 what was given back", Check.ARGUMENT, () -> x.file(0, 40, 1));
        x.end();
        c.refuses(x, "8 no SESSION is open", Check.STATE, () -> x.file(0, 13, 1));
    }

    private static void fileStaysTold() {
        Disc x = new Disc();
        x.session();
        x.track(1, 10);
        x.write(0, 1);
        x.file(4, 6, 10);
        x.close(0);
        c.due("8 first stays", 6, x.ofFile(4, 0, 0));
        c.due("8 length stays", 10, x.ofFile(4, 0, 1));
        c.due("8 GOOD", 1, x.ofFile(4, 0, 2));
        x.track(0, 3);
        x.write(1, 2);
        c.due("8 GOOD of another TRACK now", 2, x.ofFile(4, 0, 2));
    }
}
