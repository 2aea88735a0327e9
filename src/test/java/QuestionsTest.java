/** Promises 17 to 23: what is asked. */
public final class QuestionsTest {
    private static final long MOST = 68719476735L;
    private static final Check c = new Check("QuestionsTest");

    public static void main(String[] args) {
        sectors();
        marks();
        sectorRefuses();
        positions();
        nibblesComeOut();
        nibblesRefuse();
        places();
        tracks();
        trackRefuses();
        files();
        fileRefuses();
        plays();
        playsNeighbours();
        playRefuses();
        many();
        manyRefuses();
        c.finish();
    }

    private static void sectors() {
        Disc x = Disc.opened(1, 3);
        x.write(0, 5);
        x.starve(0);
        c.due("17 of no TRACK: LEAD", -1, x.ofSector(3, 0));
        c.due("17 of no TRACK: GAP", -1, x.ofSector(5, 0));
        c.due("17 WRITTEN", 0, x.ofSector(6, 0));
        c.due("17 a LINK", 0, x.ofSector(7, 0));
        c.due("17 RESERVED", 0, x.ofSector(8, 0));
        c.due("17 behind it", -1, x.ofSector(9, 0));
        c.due("17 is WRITTEN", 1, x.ofSector(6, 1));
        c.due("17 is BLANK", 0, x.ofSector(7, 1));
        c.due("17 none ERASED", 0, x.ofSector(6, 2));
        c.due("17 GOOD", 0, x.ofSector(6, 3));
        c.due("17 a BLANK one is LOST", 2, x.ofSector(8, 3));
        for (int what : new int[] {2, 4, 5, 6}) {
            c.due("17 BLANK " + what, 0, x.ofSector(8, what));
        }
        x.scratch(1, 1, 0, 0);
        c.due("17 one ERASED", 1, x.ofSector(6, 2));
        c.due("17 GOOD without it", 0, x.ofSector(6, 3));
        x.scratch(1, 1, 0, 359);
        c.due("17 a column", 4, x.ofSector(6, 2));
        x.rot(2);
        x.close(0);
        c.due("17 given back", -1, x.ofSector(8, 0));
    }

    /** The numbers were reckoned by another program, bit by bit. */
    private static void marks() {
        Disc x = Disc.opened(1, 9);
        long[] nibbles = {0, 0, 123456789L, 0x123456789L, 0xFEDCBA987L};
        int[] turns = {37, 39, 34, 36, 39};
        int[] dsv = {-4, 2, -2, -16, -4};
        int[] farthest = {10, 8, 10, 19, 13};
        for (int k = 0; k < nibbles.length; k++) {
            int s = x.write(0, nibbles[k]);
            c.due("17 TURNS of " + s, turns[k], x.ofSector(s, 4));
            c.due("17 DSV of " + s, dsv[k], x.ofSector(s, 5));
            c.due("17 farthest DSV of " + s, farthest[k], x.ofSector(s, 6));
        }
        for (int angle = 0; angle < 4; angle++) {
            x.scratch(1, 1, angle, 359);
        }
        c.due("17 all ERASED", 16, x.ofSector(8, 2));
        c.due("17 TURNS of 16 of 0", 16, x.ofSector(8, 4));
        c.due("17 DSV of 16 of 0", 0, x.ofSector(8, 5));
        c.due("17 farthest of 16 of 0", 6, x.ofSector(8, 6));
    }

    private static void sectorRefuses() {
        Disc x = Disc.opened(1, 3);
        c.refuses(x, "17 -1", Check.INDEX, () -> x.ofSector(-1, 0));
        c.refuses(x, "17 240", Check.INDEX, () -> x.ofSector(240, 0));
        c.refuses(x, "17 240 ahead of what", Check.INDEX, () -> x.ofSector(240, 9));
        c.refuses(x, "17 what -1", Check.ARGUMENT, () -> x.ofSector(0, -1));
        c.refuses(x, "17 what 9", Check.ARGUMENT, () -> x.ofSector(6, 9));
        c.refuses(x, "17 what most", Check.ARGUMENT, () -> x.ofSector(6, Integer.MAX_VALUE));
    }

    private static void positions() {
        Disc x = new Disc();
        int[] sectors = {0, 5, 6, 59, 60, 67, 68, 139, 140, 149, 150, 179, 180, 239};
        int[] turns = {0, 0, 1, 9, 10, 10, 11, 19, 20, 20, 21, 23, 24, 29};
        int[] positions = {0, 10, 11, 114, 1000, 1012, 1013, 2034, 2040, 2054, 2060, 2114, 0, 114};
        for (int k = 0; k < sectors.length; k++) {
            c.due("17 turn of " + sectors[k], turns[k], x.ofSector(sectors[k], 7));
            c.due("17 POSITION of " + sectors[k], positions[k], x.ofSector(sectors[k], 8));
        }
    }

    private static void nibblesComeOut() {
        Disc x = Disc.opened(1, 4);
        c.due("18 BLANK", -1, x.nibbles(6, false));
        c.due("18 BLANK, MENDED", -1, x.nibbles(6, true));
        x.write(0, 0x123456789L);
        c.due("18 as WRITTEN", 0x123456789L, x.nibbles(6, false));
        c.due("18 as WRITTEN, MENDED", 0x123456789L, x.nibbles(6, true));
        x.scratch(1, 1, 0, 0);
        c.due("18 the NIBBLE 1 is its MASK 4", 0x123456749L, x.nibbles(6, false));
        c.due("18 MENDED", 0x123456789L, x.nibbles(6, true));
        x.rot(0);
        c.due("18 the PLACE 10 is the NIBBLE 8, by 1", 0x023456749L, x.nibbles(6, false));
        c.due("18 both MENDED", 0x123456789L, x.nibbles(6, true));
        x.scratch(1, 1, 0, 359);
        c.due("18 a column is its MASKS", 0x0A3416749L, x.nibbles(6, false));
        c.due("18 a WRONG one spreads to what its row fills", 0x033456789L, x.nibbles(6, true));
        c.due("18 that is BAD", 1, x.ofSector(6, 3));
        x.write(0, 7);
        x.scratch(1, 1, 1, 359);
        x.scratch(1, 1, 2, 359);
        c.due("18 MENDED and LOST", -1, x.nibbles(7, true));
        c.due("18 LOST, not MENDED: the NIBBLE 0 and MASKS", 0xC00B00607L, x.nibbles(7, false));
        c.due("18 MENDING is on a copy", 8, x.ofSector(7, 2));
        Disc y = Disc.opened(1, 4);
        y.write(0, 0);
        y.rot(6);
        y.rot(11);
        c.due("18 two WRONG ones, BAD", 1, y.ofSector(6, 3));
        c.due("18 none of two is righted", 0x0000C0007L, y.nibbles(6, true));
    }

    private static void nibblesRefuse() {
        Disc x = Disc.opened(1, 4);
        c.refuses(x, "18 -1", Check.INDEX, () -> x.nibbles(-1, true));
        c.refuses(x, "18 240", Check.INDEX, () -> x.nibbles(240, false));
    }

    private static void places() {
        Disc x = Disc.opened(1, 4);
        c.due("19 BLANK", -1, x.place(6, 0));
        x.write(0, 0);
        c.due("19 MASK 0", 13, x.place(6, 0));
        c.due("19 the last one", 5, x.place(6, 15));
        x.scratch(1, 1, 0, 0);
        c.due("19 ERASED", -1, x.place(6, 1));
        x.rot(0);
        c.due("19 WRONG", 5 ^ 1, x.place(6, 10));
        c.refuses(x, "19 SECTOR -1", Check.INDEX, () -> x.place(-1, 0));
        c.refuses(x, "19 SECTOR 240", Check.INDEX, () -> x.place(240, 0));
        c.refuses(x, "19 PLACE -1", Check.INDEX, () -> x.place(6, -1));
        c.refuses(x, "19 PLACE 16", Check.INDEX, () -> x.place(6, 16));
        c.refuses(x, "19 PLACE 16 of a BLANK one", Check.INDEX, () -> x.place(0, 16));
    }

    private static void tracks() {
        Disc x = new Disc();
        x.session();
        x.end();
        x.session();
        x.track(0, 4);
        x.track(1, 9);
        x.write(1, 3);
        x.write(1, 4);
        x.starve(1);
        int[] before = {1, 1, 18, 9, 2, 1, 0, 2};
        for (int what = 0; what < before.length; what++) {
            c.due("20 open: " + what, before[what], x.ofTrack(1, what));
        }
        x.rot(0);
        x.rot(5);
        x.close(1);
        int[] after = {1, 1, 18, 3, 2, 1, 1, 1};
        for (int what = 0; what < after.length; what++) {
            c.due("20 CLOSED: " + what, after[what], x.ofTrack(1, what));
        }
        c.due("20 SOUND", 0, x.ofTrack(0, 1));
    }

    private static void trackRefuses() {
        Disc x = new Disc();
        c.refuses(x, "20 no TRACK", Check.INDEX, () -> x.ofTrack(0, 0));
        x.session();
        x.track(0, 4);
        c.refuses(x, "20 TRACK -1", Check.INDEX, () -> x.ofTrack(-1, 0));
        c.refuses(x, "20 TRACK 1", Check.INDEX, () -> x.ofTrack(1, 0));
        c.refuses(x, "20 TRACK ahead of what", Check.INDEX, () -> x.ofTrack(1, 8));
        c.refuses(x, "20 what -1", Check.ARGUMENT, () -> x.ofTrack(0, -1));
        c.refuses(x, "20 what 8", Check.ARGUMENT, () -> x.ofTrack(0, 8));
    }

    private static void files() {
        Disc x = Disc.opened(1, 5);
        x.write(0, 1);
        x.write(0, 2);
        x.file(3, 6, 4);
        x.close(0);
        x.end();
        x.session();
        x.track(1, 5);
        x.close(1);
        x.end();
        x.session();
        x.track(1, 5);
        x.file(3, 7, 1);
        c.due("21 first", 6, x.ofFile(3, 0, 0));
        c.due("21 length", 4, x.ofFile(3, 0, 1));
        c.due("21 GOOD", 2, x.ofFile(3, 0, 2));
        c.due("21 as the SESSION 0 told it", 6, x.ofFile(3, 1, 0));
        c.due("21 told anew in 2", 7, x.ofFile(3, 2, 0));
        c.due("21 GOOD as seen from 2", 1, x.ofFile(3, 2, 2));
        x.rot(0);
        x.rot(5);
        c.due("21 6 is BAD now", 1, x.ofFile(3, 0, 2));
        for (int what = 0; what <= 2; what++) {
            c.due("21 none told it: " + what, -1, x.ofFile(4, 2, what));
        }
    }

    private static void fileRefuses() {
        Disc x = new Disc();
        c.refuses(x, "21 no SESSION", Check.INDEX, () -> x.ofFile(0, 0, 0));
        x.session();
        c.refuses(x, "21 FILE -1", Check.INDEX, () -> x.ofFile(-1, 0, 0));
        c.refuses(x, "21 FILE 10", Check.INDEX, () -> x.ofFile(10, 0, 0));
        c.refuses(x, "21 SESSION -1", Check.INDEX, () -> x.ofFile(0, -1, 0));
        c.refuses(x, "21 SESSION 1", Check.INDEX, () -> x.ofFile(0, 1, 0));
        c.refuses(x, "21 SESSION ahead of what", Check.INDEX, () -> x.ofFile(0, 1, 3));
        c.refuses(x, "21 what -1", Check.ARGUMENT, () -> x.ofFile(0, 0, -1));
        c.refuses(x, "21 what 3", Check.ARGUMENT, () -> x.ofFile(0, 0, 3));
    }

    private static void plays() {
        Disc x = Disc.opened(0, 6);
        x.write(0, 0);
        x.write(0, MOST);
        x.starve(0);
        x.write(0, 0x100000000L);
        c.due("22 least", -33.5, x.play(6));
        c.due("22 most", 34.0, x.play(7));
        c.due("22 the mean", 0.5, x.play(8));
        c.due("22 1 less 67", -33.0, x.play(9));
        c.due("22 one, ahead", -24.75, x.play(10));
        c.due("22 none", 0.0, x.play(11));
        x.rot(0);
        c.due("22 as it is MENDED", -33.5, x.play(6));
    }

    private static void playsNeighbours() {
        Disc x = Disc.opened(0, 4);
        x.starve(0);
        x.write(0, MOST);
        x.write(0, 0);
        x.write(0, 1);
        c.due("22 one, behind", 25.5, x.play(6));
        x.rot(0);
        x.rot(5);
        c.due("22 8 is BAD", 1, x.ofSector(8, 3));
        c.due("22 the mean of 34 and -33", 0.5, x.play(8));
        x.scratch(1, 1, 180, 359);
        x.scratch(1, 1, 170, 349);
        c.due("22 9 is LOST", 2, x.ofSector(9, 3));
        c.due("22 one, ahead", 25.5, x.play(8));
        c.due("22 none: 8 is BAD, 10 is not of it", 0.0, x.play(9));
    }

    private static void playRefuses() {
        Disc x = Disc.opened(0, 3);
        x.track(1, 3);
        c.refuses(x, "22 -1", Check.INDEX, () -> x.play(-1));
        c.refuses(x, "22 240", Check.INDEX, () -> x.play(240));
        c.refuses(x, "22 LEAD", Check.ARGUMENT, () -> x.play(0));
        c.refuses(x, "22 GAP", Check.ARGUMENT, () -> x.play(9));
        c.refuses(x, "22 DATA", Check.ARGUMENT, () -> x.play(11));
        Disc y = Disc.opened(0, 3);
        y.close(0);
        c.refuses(y, "22 given back", Check.ARGUMENT, () -> y.play(6));
    }

    private static void many() {
        Disc x = Disc.opened(1, 9);
        for (int k = 0; k < 6; k++) {
            x.write(0, k);
        }
        x.starve(0);
        x.rot(3);
        x.rot(8);
        x.scratch(1, 1, 60, 60);
        x.scratch(1, 1, 240, 359);
        x.scratch(1, 1, 241, 359);
        x.read(6);
        x.read(9);
        x.push();
        x.tray(true);
        int[] due = {1, 1, 15, 2, 6, 4, 1, 1, 10, 2, 1, 1, 1};
        for (int what = 0; what < due.length; what++) {
            c.due("23 " + what, due[what], x.many(what));
        }
    }

    private static void manyRefuses() {
        Disc x = Disc.opened(1, 3);
        c.refuses(x, "23 -1", Check.ARGUMENT, () -> x.many(-1));
        c.refuses(x, "23 13", Check.ARGUMENT, () -> x.many(13));
        c.refuses(x, "23 least", Check.ARGUMENT, () -> x.many(Integer.MIN_VALUE));
    }
}
