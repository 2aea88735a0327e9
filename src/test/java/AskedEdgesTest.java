/** Boundary cases of the promises 17 to 23: what is asked of SECTORS, TRACKS, FILES and the DISC. */
public final class AskedEdgesTest {
    private static final long MOST = 68719476735L;
    private static final int[] NO_SECTORS = {-1, 240, 241, Integer.MIN_VALUE, Integer.MAX_VALUE};
    private static final Edges e = new Edges("AskedEdgesTest");
    private static final Check c = e.check;

    public static void main(String[] args) {
        sectorEdges();
        nibbleEdges();
        trackEdges();
        fileEdges();
        playEdges();
        e.edge(23, "what is not 0 to 12", AskedEdgesTest::manyWhats);
        e.edge(23, "0 SESSIONS, 1 TRACKS", AskedEdgesTest::manyOpened);
        e.edge(23, "8 the SECTOR ahead of which the head is, 9 READS ever", AskedEdgesTest::manyReads);
        e.edge(23, "11 how often the TRAY was REFUSED", AskedEdgesTest::manyRefused);
        e.edge(23, "4 WRITTEN SECTORS, 5 those of them that are GOOD, 6 BAD, 7 LOST", AskedEdgesTest::manyWritten);
        e.edge(23, "2 NEXT, 3 CALIBRATIONS that are left", AskedEdgesTest::manyLeft);
        e.edge(23, "10 1 if a SESSION is open, otherwise 0", AskedEdgesTest::manyOpen);
        e.edge(23, "12 1 if the TRAY is open, otherwise 0", AskedEdgesTest::manyTray);
        e.finish(17, 18, 19, 20, 21, 22, 23);
    }

    private static void sectorEdges() {
        e.edge(17, "sector is not 0 to 239", AskedEdgesTest::sectorNumbers);
        e.edge(17, "what is not 0 to 8", AskedEdgesTest::sectorWhats);
        e.edge(17, Edges.ORDER, AskedEdgesTest::sectorOrder);
        e.edge(17, "0 the TRACK that it is of (RESERVED, too; NONE, of a GAP, too)", AskedEdgesTest::sectorTracks);
        e.edge(17, "1 1 if it is WRITTEN, otherwise 0", AskedEdgesTest::sectorWritten);
        e.edge(17, "2 how many PLACES are ERASED", AskedEdgesTest::sectorErased);
        e.edge(17, "2, 4 to 6: 0 of a BLANK one", AskedEdgesTest::sectorBlank);
        e.edge(17, "BLANK ones are LOST.", AskedEdgesTest::sectorLost);
        e.edge(17, "7 its turn", AskedEdgesTest::sectorTurns);
        e.edge(17, "SECTOR s is at the frame s modulo 5, the second s / 5 modulo 12, the minute s / 60 modulo 3",
            AskedEdgesTest::sectorPositions);
    }

    private static void nibbleEdges() {
        e.edge(18, "sector is not 0 to 239", AskedEdgesTest::nibbleSectors);
        e.edge(18, "-1 of a BLANK one", AskedEdgesTest::nibblesOfBlank);
        e.edge(18, "or of one that is MENDED and LOST", AskedEdgesTest::nibblesOfLost);
        e.edge(18, "an ERASED one as 0 ahead of MASK", AskedEdgesTest::nibblesOfErased);
        e.edge(18, "WRITTEN with 9 NIBBLES (0 to 15)", AskedEdgesTest::nibbleValues);
        e.edge(18, "MASK 0 is (7 times SECTOR, and 3) modulo 16, each next one 5 times that, and 3, modulo 16",
            AskedEdgesTest::nibbleMasks);
        e.edge(19, "sector is not 0 to 239", AskedEdgesTest::placeSectors);
        e.edge(19, "place not 0 to 15", AskedEdgesTest::placePlaces);
        e.edge(19, "NONE, if it is ERASED, or the SECTOR is BLANK", AskedEdgesTest::placeNone);
        e.edge(19, "in the row 3 that of the three above it (in each column, the last one, too)",
            AskedEdgesTest::placeParities);
    }

    private static void trackEdges() {
        e.edge(20, "there is no such TRACK", AskedEdgesTest::trackNumbers);
        e.edge(20, "what is not 0 to 7", AskedEdgesTest::trackWhats);
        e.edge(20, Edges.ORDER, AskedEdgesTest::trackOrder);
        e.edge(20, "0 its SESSION, 1 0 SOUND, 1 DATA", AskedEdgesTest::trackModes);
        e.edge(20, "2 its first SECTOR (for good)", AskedEdgesTest::trackFirst);
        e.edge(20, "3 how many it has (RESERVED ones, too, that were not given back)", AskedEdgesTest::trackHas);
        e.edge(20, "4 those that are WRITTEN, 5 LINKS", AskedEdgesTest::trackWritten);
        e.edge(20, "6 1 if it is CLOSED, otherwise 0", AskedEdgesTest::trackClosed);
        e.edge(20, "7 those WRITTEN that are GOOD now", AskedEdgesTest::trackGood);
    }

    private static void fileEdges() {
        e.edge(21, "file is not 0 to 9", AskedEdgesTest::fileNumbers);
        e.edge(21, "there is no such SESSION", AskedEdgesTest::fileSessions);
        e.edge(21, "what is not 0 to 2", AskedEdgesTest::fileWhats);
        e.edge(21, Edges.ORDER, AskedEdgesTest::fileOrder);
        e.edge(21, "NONE, if none told it by then.", AskedEdgesTest::fileNone);
        e.edge(21, "the latest SESSION, no later than that one, told it", AskedEdgesTest::fileLatest);
        e.edge(21, "(of several in one the last telling)", AskedEdgesTest::fileLastTelling);
        e.edge(21, "2 how many of its SECTORS are GOOD now", AskedEdgesTest::fileGood);
    }

    private static void playEdges() {
        e.edge(22, "sector is not 0 to 239", AskedEdgesTest::playSectors);
        e.edge(22, "it is not of a SOUND TRACK", AskedEdgesTest::playTracks);
        e.edge(22, Edges.ORDER, AskedEdgesTest::playOrder);
        e.edge(22, "(NIBBLE 0 to 8 in sum, less 67) / 2f of a GOOD one", AskedEdgesTest::playGood);
        e.edge(22, "(the NIBBLES that come out, as it is MENDED)", AskedEdgesTest::playMended);
        e.edge(22, "with both the mean (their SAMPLES added, times 0.5f)", AskedEdgesTest::playBoth);
        e.edge(22, "with one 0.75f times that", AskedEdgesTest::playOne);
        e.edge(22, "with none 0f", AskedEdgesTest::playNone);
        e.edge(22, "of the SECTORS just ahead and just behind it in that TRACK", AskedEdgesTest::playAtTheEnd);
    }

    private static void sectorNumbers() {
        Disc x = Disc.written(1, 3);
        for (int sector : NO_SECTORS) {
            c.refuses(x, "SECTOR " + sector, Check.INDEX, () -> x.ofSector(sector, 0));
            c.refuses(x, "turn of SECTOR " + sector, Check.INDEX, () -> x.ofSector(sector, 7));
        }
        c.due("SECTOR 0", 0, x.ofSector(0, 7));
        c.due("SECTOR 239", 29, x.ofSector(239, 7));
    }

    private static void sectorWhats() {
        Disc x = Disc.written(1, 3);
        for (int what : new int[] {-1, 9, Integer.MIN_VALUE, Integer.MAX_VALUE}) {
            c.refuses(x, "what " + what, Check.ARGUMENT, () -> x.ofSector(6, what));
            c.refuses(x, "what " + what + " of a BLANK one", Check.ARGUMENT, () -> x.ofSector(239, what));
        }
        c.due("what 0", 0, x.ofSector(6, 0));
        c.due("what 8", 11, x.ofSector(6, 8));
    }

    private static void sectorOrder() {
        Disc x = Disc.written(1, 3);
        c.refuses(x, "240 and 9", Check.INDEX, () -> x.ofSector(240, 9));
        c.refuses(x, "-1 and -1", Check.INDEX, () -> x.ofSector(-1, -1));
    }

    private static void sectorTracks() {
        Disc x = Disc.opened(0, 3);
        x.write(0, 1);
        x.starve(0);
        x.track(1, 2);
        int[] sectors = {0, 3, 4, 5, 6, 7, 8, 9, 10, 11, 12, 13, 239};
        int[] tracks = {-1, -1, -1, -1, 0, 0, 0, -1, -1, 1, 1, -1, -1};
        for (int k = 0; k < sectors.length; k++) {
            c.due("the TRACK of " + sectors[k], tracks[k], x.ofSector(sectors[k], 0));
        }
        x.write(1, 1);
        x.close(1);
        x.close(0);
        c.due("what was given back is of none", -1, x.ofSector(12, 0));
        c.due("what is WRITTEN is not given back", 1, x.ofSector(11, 0));
        c.due("RESERVED for good", 0, x.ofSector(8, 0));
        x.end();
        c.due("an END is of none", -1, x.ofSector(12, 0));
        c.due("to its end", -1, x.ofSector(13, 0));
    }

    private static void sectorWritten() {
        Disc x = Disc.opened(0, 3);
        c.due("RESERVED", 0, x.ofSector(6, 1));
        x.write(0, 0);
        c.due("WRITTEN with 0", 1, x.ofSector(6, 1));
        x.starve(0);
        c.due("left", 0, x.ofSector(7, 1));
        x.scratch(0, 29, 0, 359);
        for (int angle = 0; angle < 4; angle++) {
            x.scratch(1, 1, angle, 359);
        }
        c.due("WRITTEN, though it is LOST", 1, x.ofSector(6, 1));
    }

    private static void sectorErased() {
        Disc x = Disc.written(0, 2);
        c.due("none", 0, x.ofSector(7, 2));
        for (int angle = 0; angle < 4; angle++) {
            x.scratch(1, 1, angle, angle + 269);
            c.due("three more by three rows", 3 * angle + 3, x.ofSector(7, 2));
        }
        for (int angle = 0; angle < 4; angle++) {
            x.scratch(1, 1, angle, 359);
        }
        c.due("all", 16, x.ofSector(7, 2));
    }

    private static void sectorBlank() {
        Disc x = Disc.opened(0, 3);
        x.starve(0);
        x.write(0, 1);
        x.scratch(0, 29, 0, 359);
        x.rot(0);
        for (int what : new int[] {2, 4, 5, 6}) {
            c.due(what + " of a LINK", 0, x.ofSector(6, what));
            c.due(what + " of a RESERVED one", 0, x.ofSector(8, what));
            c.due(what + " of a GAP", 0, x.ofSector(5, what));
            c.due(what + " of the last", 0, x.ofSector(239, what));
            c.due(what + " of a WRITTEN one", false, x.ofSector(7, what) == 0);
        }
    }

    private static void sectorLost() {
        Disc x = Disc.opened(1, 2);
        x.starve(0);
        c.due("a LINK", 2, x.ofSector(6, 3));
        c.due("a RESERVED one", 2, x.ofSector(7, 3));
        c.due("a GAP", 2, x.ofSector(5, 3));
        c.due("the first", 2, x.ofSector(0, 3));
        c.due("the last", 2, x.ofSector(239, 3));
        x.write(0, 0);
        c.due("not a WRITTEN one", 0, x.ofSector(7, 3));
    }

    private static void sectorTurns() {
        Disc x = new Disc();
        int[] sectors = {0, 5, 6, 54, 59, 60, 67, 68, 132, 139, 140, 149, 150, 229, 230, 239};
        int[] turns = {0, 0, 1, 9, 9, 10, 10, 11, 19, 19, 20, 20, 21, 28, 29, 29};
        for (int k = 0; k < sectors.length; k++) {
            c.due("the turn of " + sectors[k], turns[k], x.ofSector(sectors[k], 7));
        }
    }

    private static void sectorPositions() {
        Disc x = new Disc();
        int[] sectors = {0, 4, 5, 59, 60, 64, 119, 120, 179, 180, 184, 239};
        int[] positions = {0, 4, 10, 114, 1000, 1004, 1114, 2000, 2114, 0, 4, 114};
        for (int k = 0; k < sectors.length; k++) {
            c.due("the POSITION of " + sectors[k], positions[k], x.ofSector(sectors[k], 8));
        }
    }

    private static void nibbleSectors() {
        Disc x = Disc.written(1, 3);
        for (int sector : NO_SECTORS) {
            c.refuses(x, "SECTOR " + sector, Check.INDEX, () -> x.nibbles(sector, false));
            c.refuses(x, "SECTOR " + sector + ", MENDED", Check.INDEX, () -> x.nibbles(sector, true));
        }
        c.due("SECTOR 0", -1, x.nibbles(0, false));
        c.due("SECTOR 239", -1, x.nibbles(239, true));
    }

    private static void nibblesOfBlank() {
        Disc x = Disc.opened(1, 3);
        x.starve(0);
        for (int sector : new int[] {0, 5, 6, 7, 239}) {
            c.due("of " + sector, -1, x.nibbles(sector, false));
            c.due("of " + sector + ", MENDED", -1, x.nibbles(sector, true));
        }
    }

    private static void nibblesOfLost() {
        Disc x = Disc.opened(1, 2);
        x.write(0, 0);
        x.write(0, MOST);
        x.scratch(1, 1, 60, 359);
        c.due("a column can be MENDED", MOST, x.nibbles(7, true));
        x.scratch(1, 1, 59, 148);
        c.due("with a PLACE of another, too", MOST, x.nibbles(7, true));
        x.scratch(1, 1, 59, 149);
        c.due("with two PLACES it cannot", -1, x.nibbles(7, true));
        c.due("the PLACES 0, 1, 4, 5 and 9 as their MASKS", 0xF5FF81F74L, x.nibbles(7, false));
        Disc bad = Disc.opened(1, 1);
        bad.write(0, 0);
        bad.rot(6);
        bad.rot(11);
        c.due("BAD", 1, bad.ofSector(6, 3));
        c.due("of a BAD one what comes out", 0x0000C0007L, bad.nibbles(6, true));
    }

    private static void nibblesOfErased() {
        Disc x = Disc.opened(0, 2);
        x.write(0, 0);
        x.write(0, MOST);
        for (int angle = 57; angle <= 60; angle++) {
            x.scratch(1, 1, angle, 359);
        }
        c.due("all ERASED: the MASKS of 7", 0xC5AB81674L, x.nibbles(7, false));
        c.due("MENDED, it is LOST", -1, x.nibbles(7, true));
    }

    private static void nibbleValues() {
        Disc x = Disc.opened(1, 20);
        for (int k = 0; k < 9; k++) {
            c.due("the NIBBLE " + k + " alone", 6 + k, x.write(0, 15L << 4 * k));
            c.due("comes out", 15L << 4 * k, x.nibbles(6 + k, false));
        }
        c.due("all 0", 15, x.write(0, 0));
        c.due("all 0 come out", 0, x.nibbles(15, true));
        c.due("all 15", 16, x.write(0, MOST));
        c.due("all 15 come out", MOST, x.nibbles(16, true));
        c.due("the lowest is in the PLACE 0", 3 ^ 15, x.place(16, 0));
    }

    private static void nibbleMasks() {
        Disc x = Disc.opened(1, 10);
        int[][] masks = {
            {13, 4, 7, 6, 1, 8, 11, 10, 5}, {4, 7, 6, 1, 8, 11, 10, 5, 12}, {11, 10, 5, 12, 15, 14, 9, 0, 3}
        };
        for (int k = 0; k < 3; k++) {
            int s = x.write(0, 0);
            for (int n = 0; n < 9; n++) {
                c.due("the MASK " + n + " of " + s, masks[k][n], x.place(s, n / 3 * 4 + n % 3));
            }
        }
        Disc last = Disc.filledTo(237);
        last.track(1, 1);
        last.write(6, 0);
        int[] of239 = {12, 15, 14, 9, 0, 3, 2, 13, 4};
        for (int n = 0; n < 9; n++) {
            c.due("the MASK " + n + " of 239", of239[n], last.place(239, n / 3 * 4 + n % 3));
        }
    }

    private static void placeSectors() {
        Disc x = Disc.written(1, 3);
        for (int sector : NO_SECTORS) {
            c.refuses(x, "SECTOR " + sector, Check.INDEX, () -> x.place(sector, 0));
        }
        c.due("SECTOR 0", -1, x.place(0, 0));
        c.due("SECTOR 239", -1, x.place(239, 0));
    }

    private static void placePlaces() {
        Disc x = Disc.opened(1, 1);
        x.write(0, 0);
        for (int place : new int[] {-1, 16, 17, 32, Integer.MIN_VALUE, Integer.MAX_VALUE}) {
            c.refuses(x, "PLACE " + place, Check.INDEX, () -> x.place(6, place));
            c.refuses(x, "PLACE " + place + " of a BLANK one", Check.INDEX, () -> x.place(7, place));
        }
        c.due("PLACE 0", 13, x.place(6, 0));
        c.due("PLACE 15", 5, x.place(6, 15));
    }

    private static void placeNone() {
        Disc x = Disc.opened(1, 2);
        x.write(0, 0);
        x.scratch(1, 1, 0, 0);
        c.due("ERASED", -1, x.place(6, 1));
        c.due("just that", 13, x.place(6, 0));
        c.due("BLANK, the first PLACE", -1, x.place(7, 0));
        c.due("BLANK, the last PLACE", -1, x.place(7, 15));
        x.starve(0);
        c.due("a LINK", -1, x.place(7, 0));
    }

    private static void placeParities() {
        Disc x = Disc.opened(1, 1);
        x.write(0, 0);
        int[] block = {13, 4, 7, 14, 6, 1, 8, 15, 11, 10, 5, 4, 0, 15, 10, 5};
        for (int place = 0; place < 16; place++) {
            c.due("PLACE " + place, block[place], x.place(6, place));
        }
    }

    private static void trackNumbers() {
        Disc x = new Disc();
        c.refuses(x, "TRACK 0 of none", Check.INDEX, () -> x.ofTrack(0, 0));
        x.session();
        x.track(1, 4);
        for (int track : new int[] {-1, 1, 8, Integer.MIN_VALUE, Integer.MAX_VALUE}) {
            c.refuses(x, "TRACK " + track + " of 1", Check.INDEX, () -> x.ofTrack(track, 2));
        }
        c.due("TRACK 0 of 1", 6, x.ofTrack(0, 2));
        Disc eight = new Disc();
        eight.session();
        for (int t = 0; t < 8; t++) {
            eight.track(0, 1);
        }
        c.refuses(eight, "TRACK 8 of 8", Check.INDEX, () -> eight.ofTrack(8, 0));
        c.due("TRACK 7 of 8", 27, eight.ofTrack(7, 2));
    }

    private static void trackWhats() {
        Disc x = Disc.written(1, 3);
        for (int what : new int[] {-1, 8, Integer.MIN_VALUE, Integer.MAX_VALUE}) {
            c.refuses(x, "what " + what, Check.ARGUMENT, () -> x.ofTrack(0, what));
        }
        c.due("what 0", 0, x.ofTrack(0, 0));
        c.due("what 7", 3, x.ofTrack(0, 7));
    }

    private static void trackOrder() {
        Disc x = Disc.written(1, 3);
        c.refuses(x, "TRACK 1, what 8", Check.INDEX, () -> x.ofTrack(1, 8));
        c.refuses(x, "TRACK -1, what -1", Check.INDEX, () -> x.ofTrack(-1, -1));
    }

    private static void trackModes() {
        Disc x = Disc.opened(0, 1);
        x.track(1, 1);
        c.due("SOUND", 0, x.ofTrack(0, 1));
        c.due("DATA", 1, x.ofTrack(1, 1));
        x.close(0);
        x.close(1);
        x.end();
        x.session();
        x.end();
        x.session();
        x.track(0, 1);
        c.due("the first SESSION", 0, x.ofTrack(1, 0));
        c.due("the third SESSION", 2, x.ofTrack(2, 0));
        c.due("SOUND of the third", 0, x.ofTrack(2, 1));
    }

    private static void trackClosed() {
        Disc x = Disc.opened(0, 1);
        x.track(1, 1);
        c.due("open", 0, x.ofTrack(0, 6));
        x.write(0, 1);
        c.due("full, but open", 0, x.ofTrack(0, 6));
        x.close(0);
        c.due("CLOSED", 1, x.ofTrack(0, 6));
        c.due("the other is open", 0, x.ofTrack(1, 6));
        x.close(1);
        c.due("CLOSED, and all was given back", 1, x.ofTrack(1, 6));
    }

    private static void trackFirst() {
        Disc x = Disc.opened(1, 3);
        x.close(0);
        c.due("all was given back", 6, x.ofTrack(0, 2));
        c.due("another one is behind it", 8, x.track(0, 3));
        c.due("still", 6, x.ofTrack(0, 2));
        x.close(1);
        x.end();
        c.due("the END is there", 6, x.ofTrack(0, 2));
        c.due("and of the other", 8, x.ofTrack(1, 2));
    }

    private static void trackHas() {
        Disc x = Disc.opened(1, 40);
        c.due("RESERVED ones", 40, x.ofTrack(0, 3));
        x.write(0, 1);
        c.due("with a WRITTEN one", 40, x.ofTrack(0, 3));
        x.starve(0);
        c.due("with a LINK", 40, x.ofTrack(0, 3));
        x.close(0);
        c.due("38 were given back", 2, x.ofTrack(0, 3));
        x.track(0, 1);
        x.track(0, 1);
        x.close(1);
        c.due("none of what is not the last", 1, x.ofTrack(1, 3));
        x.close(2);
        c.due("all", 0, x.ofTrack(2, 3));
    }

    private static void trackWritten() {
        Disc x = Disc.opened(1, 3);
        int[] due = {0, 0, 0, 1, 1, 1, 2, 1};
        c.due("none is WRITTEN", due[0], x.ofTrack(0, 4));
        c.due("no LINK", due[1], x.ofTrack(0, 5));
        x.starve(0);
        c.due("a LINK is not WRITTEN", due[2], x.ofTrack(0, 4));
        c.due("one LINK", due[3], x.ofTrack(0, 5));
        x.write(0, 1);
        c.due("one is WRITTEN", due[4], x.ofTrack(0, 4));
        c.due("one LINK yet", due[5], x.ofTrack(0, 5));
        x.write(0, 1);
        x.close(0);
        c.due("two are WRITTEN", due[6], x.ofTrack(0, 4));
        c.due("one LINK for good", due[7], x.ofTrack(0, 5));
    }

    private static void trackGood() {
        Disc x = Disc.opened(1, 5);
        c.due("none", 0, x.ofTrack(0, 7));
        for (int k = 0; k < 3; k++) {
            x.write(0, k);
        }
        x.starve(0);
        c.due("3 of 3, without the LINK and the RESERVED one", 3, x.ofTrack(0, 7));
        x.rot(0);
        c.due("GOOD, though WRONG", 3, x.ofTrack(0, 7));
        x.rot(5);
        c.due("6 and 8 are BAD", 1, x.ofTrack(0, 7));
        c.due("and WRITTEN", 3, x.ofTrack(0, 4));
        x.rot(5);
        x.rot(0);
        c.due("GOOD again", 3, x.ofTrack(0, 7));
        x.scratch(1, 1, 59, 359);
        c.due("GOOD without a column", 3, x.ofTrack(0, 7));
        x.scratch(1, 1, 60, 359);
        c.due("7 and 8 are LOST without two", 1, x.ofTrack(0, 7));
    }

    private static void fileNumbers() {
        Disc x = Disc.written(1, 4);
        x.file(0, 6, 1);
        x.file(9, 7, 2);
        for (int file : new int[] {-1, 10, Integer.MIN_VALUE, Integer.MAX_VALUE}) {
            c.refuses(x, "FILE " + file, Check.INDEX, () -> x.ofFile(file, 0, 0));
        }
        c.due("FILE 0", 6, x.ofFile(0, 0, 0));
        c.due("FILE 9", 7, x.ofFile(9, 0, 0));
    }

    private static void fileSessions() {
        Disc none = new Disc();
        c.refuses(none, "SESSION 0 of none", Check.INDEX, () -> none.ofFile(0, 0, 0));
        Disc x = Disc.written(1, 4);
        x.file(0, 6, 1);
        for (int session : new int[] {-1, 1, 2, 3, Integer.MIN_VALUE, Integer.MAX_VALUE}) {
            c.refuses(x, "SESSION " + session + " of 1", Check.INDEX, () -> x.ofFile(0, session, 0));
        }
        c.due("SESSION 0, open", 6, x.ofFile(0, 0, 0));
        x.close(0);
        x.end();
        c.due("SESSION 0, CLOSED", 6, x.ofFile(0, 0, 0));
        c.refuses(x, "SESSION 1 is not opened yet", Check.INDEX, () -> x.ofFile(0, 1, 0));
        x.session();
        x.end();
        x.session();
        c.due("SESSION 2 of 3", 6, x.ofFile(0, 2, 0));
        c.refuses(x, "SESSION 3 of 3", Check.INDEX, () -> x.ofFile(0, 3, 0));
    }

    private static void fileWhats() {
        Disc x = Disc.written(1, 4);
        x.file(0, 6, 3);
        for (int what : new int[] {-1, 3, Integer.MIN_VALUE, Integer.MAX_VALUE}) {
            c.refuses(x, "what " + what, Check.ARGUMENT, () -> x.ofFile(0, 0, what));
            c.refuses(x, "what " + what + " of one that none told", Check.ARGUMENT, () -> x.ofFile(1, 0, what));
        }
        c.due("what 0", 6, x.ofFile(0, 0, 0));
        c.due("what 1", 3, x.ofFile(0, 0, 1));
        c.due("what 2", 3, x.ofFile(0, 0, 2));
    }

    private static void fileOrder() {
        Disc x = Disc.written(1, 4);
        c.refuses(x, "FILE 10, what 3", Check.INDEX, () -> x.ofFile(10, 0, 3));
        c.refuses(x, "SESSION 1, what 3", Check.INDEX, () -> x.ofFile(0, 1, 3));
        c.refuses(x, "SESSION -1, what -1", Check.INDEX, () -> x.ofFile(0, -1, -1));
    }

    private static void fileNone() {
        Disc x = Disc.written(1, 4);
        for (int what = 0; what <= 2; what++) {
            c.due("none told: " + what, -1, x.ofFile(3, 0, what));
        }
        x.close(0);
        x.end();
        x.session();
        x.file(3, 6, 1);
        for (int what = 0; what <= 2; what++) {
            c.due("told later: " + what, -1, x.ofFile(3, 0, what));
        }
        c.due("told by then", 6, x.ofFile(3, 1, 0));
        c.due("another one is not", -1, x.ofFile(2, 1, 0));
    }

    private static void fileLatest() {
        Disc x = Disc.written(1, 5);
        x.file(3, 6, 1);
        x.close(0);
        x.end();
        x.session();
        c.due("as the SESSION 0 told it", 6, x.ofFile(3, 1, 0));
        x.end();
        x.session();
        c.due("as the SESSION 0 told it, two later", 6, x.ofFile(3, 2, 0));
        x.file(3, 7, 2);
        c.due("as the SESSION 2 told it", 7, x.ofFile(3, 2, 0));
        c.due("its length", 2, x.ofFile(3, 2, 1));
        c.due("from 1 that of 0 is seen", 6, x.ofFile(3, 1, 0));
        c.due("from 0, too", 6, x.ofFile(3, 0, 0));
        c.due("its length", 1, x.ofFile(3, 0, 1));
    }

    private static void fileLastTelling() {
        Disc x = Disc.written(1, 5);
        x.file(3, 6, 4);
        x.file(3, 8, 2);
        c.due("first", 8, x.ofFile(3, 0, 0));
        c.due("length", 2, x.ofFile(3, 0, 1));
        c.due("GOOD", 2, x.ofFile(3, 0, 2));
        x.file(3, 7, 1);
        c.due("told a third time", 7, x.ofFile(3, 0, 0));
        c.due("another one is not told", -1, x.ofFile(4, 0, 0));
    }

    private static void fileGood() {
        Disc x = Disc.opened(1, 20);
        x.file(0, 6, 20);
        c.due("none is WRITTEN", 0, x.ofFile(0, 0, 2));
        for (int k = 0; k < 20; k++) {
            x.write(0, k);
        }
        c.due("all", 20, x.ofFile(0, 0, 2));
        x.file(1, 25, 1);
        c.due("the last one", 1, x.ofFile(1, 0, 2));
        x.rot(0);
        x.rot(5);
        c.due("each other one is BAD", 10, x.ofFile(0, 0, 2));
        for (int angle = 0; angle < 2; angle++) {
            x.scratch(4, 4, angle, 359);
        }
        c.due("25 is LOST", 9, x.ofFile(0, 0, 2));
        c.due("the last one, alone", 0, x.ofFile(1, 0, 2));
    }

    private static void playSectors() {
        Disc x = Disc.written(0, 3);
        for (int sector : NO_SECTORS) {
            c.refuses(x, "SECTOR " + sector, Check.INDEX, () -> x.play(sector));
        }
        c.due("SECTOR 6", -33.5, x.play(6));
        Disc end = Disc.filledTo(237);
        end.track(0, 1);
        c.due("SECTOR 239", 0.0, end.play(239));
    }

    private static void playTracks() {
        Disc x = Disc.written(0, 3);
        x.track(1, 3);
        x.write(1, 1);
        for (int sector : new int[] {0, 3, 4, 5, 9, 10, 11, 12, 13, 14, 239}) {
            c.refuses(x, "SECTOR " + sector, Check.ARGUMENT, () -> x.play(sector));
        }
        c.due("the first one of the TRACK", -33.5, x.play(6));
        c.due("its last one", true, x.play(8) > -33.5);
        x.track(0, 3);
        c.due("RESERVED", 0.0, x.play(16));
        x.close(2);
        c.refuses(x, "what was given back", Check.ARGUMENT, () -> x.play(16));
    }

    private static void playOrder() {
        Disc x = new Disc();
        c.refuses(x, "240, no TRACK", Check.INDEX, () -> x.play(240));
        c.refuses(x, "-1, no TRACK", Check.INDEX, () -> x.play(-1));
    }

    private static void playGood() {
        Disc x = Disc.opened(0, 9);
        long[] nibbles = {0, MOST, 0x1L, 0xFFFF70000L, 0xFFFF80000L, 0xFFFF60000L};
        double[] due = {-33.5, 34.0, -33.0, 0.0, 0.5, -0.5};
        for (int k = 0; k < nibbles.length; k++) {
            x.write(0, nibbles[k]);
            c.due("the SAMPLE of " + nibbles[k], due[k], x.play(6 + k));
        }
    }

    private static void playMended() {
        Disc x = Disc.opened(0, 1);
        x.write(0, 0);
        x.scratch(1, 1, 0, 359);
        c.due("a column is ERASED", -33.5, x.play(6));
        Disc wrong = Disc.opened(0, 1);
        wrong.write(0, 0);
        wrong.rot(6);
        c.due("a WRONG PLACE is made right", -33.5, wrong.play(6));
        wrong.rot(11);
        c.due("BAD with two", 1, wrong.ofSector(6, 3));
        c.due("what comes out of a BAD one is no SAMPLE", 0.0, wrong.play(6));
    }

    private static void playBoth() {
        Disc x = Disc.opened(0, 3);
        x.write(0, MOST);
        x.starve(0);
        x.write(0, 1);
        c.due("34 and -33, of a LINK", 0.5, x.play(7));
        Disc y = Disc.opened(0, 6);
        for (long nibbles : new long[] {0, 0, 0xFL, 0xFFL, 0xFFFFL, 0}) {
            y.write(0, nibbles);
        }
        y.rot(1);
        y.rot(6);
        c.due("9 is BAD", 1, y.ofSector(9, 3));
        c.due("-26 and -3.5, of a BAD one", -14.75, y.play(9));
        y.rot(6);
        c.due("GOOD again", -18.5, y.play(9));
        y.scratch(1, 1, 121, 239);
        y.scratch(1, 1, 122, 239);
        c.due("9 is LOST", 2, y.ofSector(9, 3));
        c.due("-26 and -3.5, of a LOST one", -14.75, y.play(9));
    }

    private static void playOne() {
        Disc x = Disc.opened(0, 5);
        x.write(0, MOST);
        c.due("ahead alone, of a RESERVED one", 25.5, x.play(7));
        c.due("not of the one ahead of that", 0.0, x.play(8));
        x.starve(0);
        x.starve(0);
        x.write(0, 0);
        c.due("ahead alone, of a LINK", 25.5, x.play(7));
        c.due("behind alone, of a LINK", -25.125, x.play(8));
        c.due("ahead alone, of the last one", -25.125, x.play(10));
    }

    private static void playNone() {
        Disc x = Disc.opened(0, 3);
        c.due("the first one", 0.0, x.play(6));
        c.due("between two", 0.0, x.play(7));
        c.due("the last one", 0.0, x.play(8));
        Disc lost = Disc.written(0, 6);
        lost.scratch(1, 1, 59, 359);
        lost.scratch(1, 1, 60, 359);
        c.due("LOST ones at both sides", 0.0, lost.play(9));
        c.due("a GOOD one ahead", -25.125, lost.play(7));
    }

    private static void playAtTheEnd() {
        Disc x = Disc.filledTo(237);
        x.track(0, 1);
        c.due("the last one of the DISC, alone", 0.0, x.play(239));
        Disc y = Disc.filledTo(236);
        y.track(0, 2);
        y.write(6, MOST);
        c.due("the last one of the DISC", 25.5, y.play(239));
        Disc z = Disc.opened(0, 1);
        z.track(0, 3);
        z.write(0, MOST);
        z.write(1, 0);
        z.starve(1);
        c.due("the first one of another TRACK", -33.5, z.play(9));
        c.due("the second one", -25.125, z.play(10));
        c.due("the third one", 0.0, z.play(11));
    }

    private static void manyWhats() {
        Disc x = Disc.written(1, 3);
        for (int what : new int[] {-1, 13, Integer.MIN_VALUE, Integer.MAX_VALUE}) {
            c.refuses(x, "what " + what, Check.ARGUMENT, () -> x.many(what));
        }
        c.due("what 0", 1, x.many(0));
        x.tray(true);
        c.due("what 12", 1, x.many(12));
    }

    private static void manyOpened() {
        Disc x = new Disc();
        c.due("no SESSION", 0, x.many(0));
        c.due("no TRACK", 0, x.many(1));
        x.session();
        for (int t = 0; t < 8; t++) {
            x.track(1, 1);
            x.close(t);
        }
        c.due("8 TRACKS without a SECTOR", 8, x.many(1));
        for (int k = 0; k < 2; k++) {
            x.end();
            x.session();
        }
        x.end();
        c.due("3 SESSIONS, all CLOSED", 3, x.many(0));
        c.due("8 TRACKS yet", 8, x.many(1));
    }

    private static void manyReads() {
        Disc x = new Disc();
        c.due("none", 0, x.many(9));
        c.due("ahead of 0", 0, x.many(8));
        x.read(0);
        x.read(0);
        c.due("twice the same", 2, x.many(9));
        c.due("ahead of 1", 1, x.many(8));
        x.read(239);
        x.read(239);
        c.due("twice the last", 4, x.many(9));
        c.due("ahead of the last", 239, x.many(8));
        x.seek(6);
        x.wouldTake(6, 40);
        c.due("what would be is no READ", 4, x.many(9));
        c.due("nor moves the head", 239, x.many(8));
    }

    private static void manyRefused() {
        Disc x = new Disc();
        c.due("never", 0, x.many(11));
        x.tray(true);
        x.tray(false);
        c.due("opened and shut by a call it is not", 0, x.many(11));
        x.push();
        x.push();
        c.due("twice", 2, x.many(11));
    }

    private static void manyWritten() {
        int[] none = {0, 0, 0, 0};
        Disc x = Disc.opened(1, 6);
        dueOfWritten("RESERVED ones", none, x);
        x.starve(0);
        dueOfWritten("a LINK", none, x);
        x.write(0, 1);
        x.write(0, 2);
        x.write(0, 3);
        dueOfWritten("3 WRITTEN", new int[] {3, 3, 0, 0}, x);
        x.rot(0);
        x.rot(5);
        dueOfWritten("8 is BAD", new int[] {3, 2, 1, 0}, x);
        x.scratch(1, 1, 180, 180);
        dueOfWritten("9 is GOOD without one", new int[] {3, 2, 1, 0}, x);
        x.scratch(1, 1, 179, 358);
        x.scratch(1, 1, 180, 359);
        dueOfWritten("9 is LOST", new int[] {3, 1, 1, 1}, x);
        x.close(0);
        x.end();
        dueOfWritten("CLOSED", new int[] {3, 1, 1, 1}, x);
    }

    private static void dueOfWritten(String when, int[] due, Disc x) {
        for (int k = 0; k < 4; k++) {
            c.due(when + ": " + (4 + k), due[k], x.many(4 + k));
        }
    }

    private static void manyLeft() {
        Disc x = Disc.filledTo(238);
        c.due("NEXT", 238, x.many(2));
        c.due("CALIBRATIONS", 3, x.many(3));
        x.end();
        c.due("NEXT is behind the last", 240, x.many(2));
        Disc y = Disc.opened(0, 3);
        for (int k = 0; k < 3; k++) {
            y.starve(0);
        }
        c.due("no CALIBRATION", 0, y.many(3));
    }

    private static void manyOpen() {
        Disc x = new Disc();
        c.due("there was none", 0, x.many(10));
        x.session();
        c.due("it is open", 1, x.many(10));
        x.end();
        c.due("it is CLOSED", 0, x.many(10));
    }

    private static void manyTray() {
        Disc x = new Disc();
        c.due("shut at first", 0, x.many(12));
        x.tray(true);
        c.due("open", 1, x.many(12));
        x.tray(false);
        c.due("shut", 0, x.many(12));
    }
}
