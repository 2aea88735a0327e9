/** Boundary cases of the promises 1 to 3: a new object, SESSIONS and TRACKS that are opened. */
public final class OpeningEdgesTest {
    private static final Edges e = new Edges("OpeningEdgesTest");
    private static final Check c = e.check;

    public static void main(String[] args) {
        e.edge(1, "Creates a blank DISC.", OpeningEdgesTest::blankDisc);
        e.edge(1, "A DISC has 240 SECTORS, numbered from 0, each BLANK (at first)", OpeningEdgesTest::blankSectors);
        e.edge(1, "the first SECTOR that nobody has, 0 at first", OpeningEdgesTest::nextAtFirst);
        e.edge(1, "The head is ahead of a SECTOR (0 at first)", OpeningEdgesTest::headAtFirst);
        e.edge(1, "CLOCK (double) is 0.0 at first", OpeningEdgesTest::clockAtFirst);
        e.edge(1, "An object is used for at most 512 calls after it has been made", OpeningEdgesTest::lastOfAllCalls);
        sessionEdges();
        trackEdges();
        e.finish(1, 2, 3);
    }

    private static void sessionEdges() {
        e.edge(2, "SESSIONS: at most 3, numbered from 0, opened one behind the other", OpeningEdgesTest::threeSessions);
        e.edge(2, "opening one uses one of 4 CALIBRATIONS", OpeningEdgesTest::lastCalibration);
        e.edge(2, "4 SECTORS (its LEAD) from NEXT on", OpeningEdgesTest::leads);
        e.edge(2, "one is open", OpeningEdgesTest::sessionOpen);
        e.edge(2, "there are 3", OpeningEdgesTest::fourthSession);
        e.edge(2, "there is no CALIBRATION", OpeningEdgesTest::noCalibration);
        e.edge(2, "fewer than 4 SECTORS are left from NEXT on", OpeningEdgesTest::roomForLead);
    }

    private static void trackEdges() {
        e.edge(3, "TRACKS: at most 8, numbered from 0, opened in the open SESSION", OpeningEdgesTest::eightTracks);
        e.edge(3, "for 1 to 40 SECTORS that are RESERVED from 2 behind NEXT on (the 2 are its GAP)",
            OpeningEdgesTest::reserved);
        e.edge(3, "Returns its first SECTOR.", OpeningEdgesTest::firstOfGivenBack);
        e.edge(3, "mode is not 0 or 1", OpeningEdgesTest::modes);
        e.edge(3, "sectors not 1 to 40", OpeningEdgesTest::lengths);
        e.edge(3, "no SESSION is open", OpeningEdgesTest::noSession);
        e.edge(3, "there are 8", OpeningEdgesTest::ninthTrack);
        e.edge(3, "not so many SECTORS are left (with its GAP)", OpeningEdgesTest::roomForTrack);
        e.edge(3, Edges.ORDER, OpeningEdgesTest::trackOrder);
    }

    private static void blankDisc() {
        Disc x = new Disc();
        int[] many = {0, 0, 0, 4, 0, 0, 0, 0, 0, 0, 0, 0, 0};
        for (int what = 0; what < many.length; what++) {
            c.due("many " + what, many[what], x.many(what));
        }
        c.due("the TRAY is shut", false, x.tray(false));
        c.refuses(x, "no TRACK", Check.INDEX, () -> x.ofTrack(0, 0));
        c.refuses(x, "no SESSION", Check.INDEX, () -> x.ofFile(0, 0, 0));
        Disc other = Disc.written(1, 3);
        other.push();
        c.due("another object has no part in it", new Disc().digest(), x.digest());
    }

    private static void blankSectors() {
        Disc x = new Disc();
        Disc states = new Disc();
        Disc raw = new Disc();
        for (int s = 0; s < 240; s++) {
            c.due("of no TRACK " + s, -1, x.ofSector(s, 0));
            c.due("BLANK " + s, 0, x.ofSector(s, 1));
            c.due("LOST " + s, 2, states.ofSector(s, 3));
            c.due("no NIBBLES " + s, -1, states.nibbles(s, true));
            c.due("no NIBBLES at all " + s, -1, raw.nibbles(s, false));
            c.due("no PLACE " + s, -1, raw.place(s, s % 16));
        }
        c.refuses(x, "240 is none", Check.INDEX, () -> x.ofSector(240, 1));
        c.refuses(x, "-1 is none", Check.INDEX, () -> x.ofSector(-1, 1));
    }

    private static void nextAtFirst() {
        Disc x = new Disc();
        c.due("NEXT", 0, x.many(2));
        x.session();
        c.due("behind a LEAD from 0 on", 4, x.many(2));
    }

    private static void headAtFirst() {
        Disc x = new Disc();
        c.due("the head", 0, x.many(8));
        c.due("it is there", 0.0, x.seek(0));
        c.due("it is not there", false, x.seek(1) == 0.0);
    }

    private static void clockAtFirst() {
        Disc x = new Disc();
        c.due("CLOCK", 0.0, x.clock());
    }

    private static void lastOfAllCalls() {
        Disc x = new Disc();
        x.session();
        x.track(1, 20);
        for (int k = 0; k < 509; k++) {
            x.file(k % 10, 6 + k % 7, 1);
        }
        c.due("the call 512, behind 509 tellings of FILES", 10, x.ofFile(8, 0, 0));
    }

    private static void threeSessions() {
        Disc x = new Disc();
        c.due("the first", 0, x.session());
        x.end();
        c.due("the second", 1, x.session());
        x.end();
        c.due("the third", 2, x.session());
        c.due("SESSIONS", 3, x.many(0));
        c.due("the third is open", 1, x.many(10));
    }

    private static void lastCalibration() {
        Disc x = Disc.opened(0, 4);
        x.starve(0);
        x.starve(0);
        x.close(0);
        x.end();
        c.due("one is left", 1, x.many(3));
        c.due("it is used", 1, x.session());
        c.due("none is left", 0, x.many(3));
    }

    private static void leads() {
        Disc x = new Disc();
        x.session();
        c.due("NEXT", 4, x.many(2));
        x.track(0, 1);
        c.due("the LEAD is of no TRACK", -1, x.ofSector(3, 0));
        x.close(0);
        x.end();
        x.session();
        c.due("NEXT behind its GAP, the END and another LEAD", 12, x.many(2));
    }

    private static void sessionOpen() {
        Disc x = new Disc();
        x.session();
        c.refuses(x, "the first is open", Check.STATE, x::session);
        x.end();
        x.session();
        c.refuses(x, "the second is open", Check.STATE, x::session);
        x.end();
        c.due("none is open", 2, x.session());
    }

    private static void fourthSession() {
        Disc x = new Disc();
        for (int k = 0; k < 3; k++) {
            x.session();
            x.end();
        }
        c.due("a CALIBRATION is left", 1, x.many(3));
        c.due("none is open", 0, x.many(10));
        c.refuses(x, "a fourth one", Check.STATE, x::session);
    }

    private static void noCalibration() {
        Disc x = Disc.opened(1, 5);
        for (int k = 0; k < 3; k++) {
            x.starve(0);
        }
        x.close(0);
        x.end();
        c.refuses(x, "the second one", Check.STATE, x::session);
        Disc y = new Disc();
        y.session();
        y.end();
        y.session();
        y.track(0, 2);
        y.starve(0);
        y.starve(0);
        y.close(0);
        y.end();
        c.refuses(y, "the third one", Check.STATE, y::session);
    }

    private static void roomForLead() {
        Disc fits = Disc.filledTo(234);
        c.due("NEXT", 236, fits.end());
        c.due("just 4 are left", 1, fits.session());
        c.due("NEXT is behind the last", 240, fits.many(2));
        for (int left = 0; left < 4; left++) {
            Disc x = Disc.filledTo(238 - left);
            c.due("NEXT", 240 - left, x.end());
            c.refuses(x, left + " are left", Check.STATE, x::session);
        }
    }

    private static void eightTracks() {
        Disc x = new Disc();
        x.session();
        for (int t = 0; t < 7; t++) {
            x.track(t % 2, 1);
        }
        c.due("the eighth one", 27, x.track(1, 1));
        c.due("TRACKS", 8, x.many(1));
        c.due("the last SECTOR is of the last", 7, x.ofSector(27, 0));
        c.due("its number is 7", 1, x.ofTrack(7, 3));
        c.due("the first SECTOR is of the first", 0, x.ofSector(6, 0));
        c.due("it can be WRITTEN", 27, x.write(7, 1));
    }

    private static void reserved() {
        Disc x = new Disc();
        x.session();
        c.due("1 SECTOR", 6, x.track(0, 1));
        c.due("NEXT is behind it", 7, x.many(2));
        c.due("40 SECTORS", 9, x.track(1, 40));
        c.due("NEXT is behind them", 49, x.many(2));
        int[] sectors = {5, 6, 7, 8, 9, 48, 49};
        int[] tracks = {-1, 0, -1, -1, 1, 1, -1};
        for (int k = 0; k < sectors.length; k++) {
            c.due("the TRACK of " + sectors[k], tracks[k], x.ofSector(sectors[k], 0));
            c.due("BLANK " + sectors[k], 0, x.ofSector(sectors[k], 1));
        }
    }

    private static void firstOfGivenBack() {
        Disc x = Disc.opened(0, 9);
        x.close(0);
        c.due("2 behind NEXT, that is 6", 8, x.track(1, 3));
        c.due("of it", 1, x.ofSector(8, 0));
        c.due("of none", -1, x.ofSector(6, 0));
    }

    private static void modes() {
        Disc x = new Disc();
        x.session();
        for (int mode : new int[] {-1, 2, Integer.MIN_VALUE, Integer.MAX_VALUE}) {
            c.refuses(x, "mode " + mode, Check.ARGUMENT, () -> x.track(mode, 1));
        }
        c.due("SOUND", 6, x.track(0, 1));
        c.due("DATA", 9, x.track(1, 1));
        c.due("mode 0", 0, x.ofTrack(0, 1));
        c.due("mode 1", 1, x.ofTrack(1, 1));
    }

    private static void lengths() {
        Disc x = new Disc();
        x.session();
        for (int sectors : new int[] {0, 41, -1, Integer.MIN_VALUE, Integer.MAX_VALUE, Integer.MAX_VALUE - 1}) {
            c.refuses(x, sectors + " SECTORS", Check.ARGUMENT, () -> x.track(1, sectors));
        }
        c.due("40", 6, x.track(1, 40));
        c.due("1", 48, x.track(1, 1));
        c.due("it has 40", 40, x.ofTrack(0, 3));
        c.due("it has 1", 1, x.ofTrack(1, 3));
    }

    private static void noSession() {
        Disc x = new Disc();
        c.refuses(x, "there was none", Check.STATE, () -> x.track(0, 1));
        x.session();
        x.end();
        c.refuses(x, "it is CLOSED", Check.STATE, () -> x.track(0, 1));
        x.session();
        c.due("another one is open", 12, x.track(0, 1));
    }

    private static void ninthTrack() {
        Disc x = new Disc();
        x.session();
        for (int t = 0; t < 4; t++) {
            x.track(0, 1);
            x.close(t);
        }
        x.end();
        x.session();
        for (int t = 4; t < 7; t++) {
            x.track(1, 1);
        }
        c.due("7 TRACKS, of which 4 have no SECTOR", 7, x.many(1));
        c.due("the eighth one", true, x.track(1, 1) > 0);
        c.refuses(x, "a ninth one", Check.STATE, () -> x.track(0, 1));
        x.close(7);
        c.refuses(x, "a ninth one, as the eighth is CLOSED", Check.STATE, () -> x.track(0, 1));
    }

    private static void roomForTrack() {
        Disc x = new Disc();
        x.session();
        for (int t = 0; t < 5; t++) {
            x.track(0, 40);
        }
        c.due("NEXT", 214, x.many(2));
        c.refuses(x, "25 and 2 of 26", Check.STATE, () -> x.track(1, 25));
        c.refuses(x, "40 and 2 of 26", Check.STATE, () -> x.track(1, 40));
        c.due("24 and 2 of 26", 216, x.track(1, 24));
        c.due("NEXT is behind the last", 240, x.many(2));
        c.refuses(x, "1 and 2 of 0", Check.STATE, () -> x.track(1, 1));
        Disc fits = Disc.filledTo(237);
        c.refuses(fits, "2 and 2 of 3", Check.STATE, () -> fits.track(0, 2));
        c.due("1 and 2 of 3", 239, fits.track(0, 1));
        c.due("the last SECTOR is of it", 6, fits.ofSector(239, 0));
        for (int left = 0; left < 3; left++) {
            Disc full = Disc.filledTo(240 - left);
            c.refuses(full, "1 and 2 of " + left, Check.STATE, () -> full.track(0, 1));
        }
    }

    private static void trackOrder() {
        Disc none = new Disc();
        c.refuses(none, "mode 2, no SESSION", Check.ARGUMENT, () -> none.track(2, 1));
        c.refuses(none, "41, no SESSION", Check.ARGUMENT, () -> none.track(0, 41));
        Disc eight = new Disc();
        eight.session();
        for (int t = 0; t < 8; t++) {
            eight.track(0, 1);
        }
        c.refuses(eight, "mode -1, 8 TRACKS", Check.ARGUMENT, () -> eight.track(-1, 1));
        c.refuses(eight, "0, 8 TRACKS", Check.ARGUMENT, () -> eight.track(0, 0));
        Disc full = Disc.filledTo(240);
        c.refuses(full, "mode 2, no SECTOR is left", Check.ARGUMENT, () -> full.track(2, 1));
        c.refuses(full, "41, no SECTOR is left", Check.ARGUMENT, () -> full.track(0, 41));
    }
}
