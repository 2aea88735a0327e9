/** Boundary cases of the promises 13 to 16 and 24: READS, SEEKS, the CLOCK and ANGLES. */
public final class DriveEdgesTest {
    private static final int[] NO_SECTORS = {-1, 240, 241, Integer.MIN_VALUE, Integer.MAX_VALUE};
    private static final Edges e = new Edges("DriveEdgesTest");
    private static final Check c = e.check;

    public static void main(String[] args) {
        readEdges();
        seekEdges();
        e.edge(15, "CLOCK (double) is 0.0 at first", DriveEdgesTest::clockAtFirst);
        e.edge(15, "Returns the CLOCK.", DriveEdgesTest::clockAlone);
        e.edge(16, "sector is not 0 to 239", DriveEdgesTest::angleSectors);
        e.edge(16, "turns 0 to 9 have 6 SECTORS each, 10 to 19 have 8, and all others 10 (SECTORS in order)",
            DriveEdgesTest::angleTurns);
        e.edge(16, "its place in its turn (from 0) times 360.0, divided by how many that has",
            DriveEdgesTest::angleEnds);
        takeEdges();
        e.finish(13, 14, 15, 16, 24);
    }

    private static void readEdges() {
        e.edge(13, "sector is not 0 to 239", DriveEdgesTest::readSectors);
        e.edge(13, "the TRAY is open", DriveEdgesTest::readWithOpenTray);
        e.edge(13, "Returns 0 if it is GOOD, 1 BAD, 2 LOST.", DriveEdgesTest::readStates);
        e.edge(13, "CLOCK becomes more by what the SEEK takes, and then by 0.5 divided by SPEED",
            DriveEdgesTest::readTakes);
        e.edge(13, "SPEED (float) by turns: 1f, 1.25f, 1.5f for these three", DriveEdgesTest::readSpeeds);
        e.edge(13, "the head is ahead of the next one then (of the last one it stays)", DriveEdgesTest::readTheLast);
        e.edge(13, Edges.ORDER, DriveEdgesTest::readOrder);
    }

    private static void seekEdges() {
        e.edge(14, "sector is not 0 to 239", DriveEdgesTest::seekSectors);
        e.edge(14, "nothing, if it is there", DriveEdgesTest::seekThere);
        e.edge(14, "0.25 times the difference of their turns (without its sign)", DriveEdgesTest::seekBack);
        e.edge(14, "(as % does; 360.0 more, if that is below 0)", DriveEdgesTest::seekWaits);
        e.edge(14, "(also as the TRAY is open, as if it were shut)", DriveEdgesTest::seekWithOpenTray);
    }

    private static void takeEdges() {
        e.edge(24, "first is not 0 to 239", DriveEdgesTest::takeFirsts);
        e.edge(24, "sectors is not 1 to 40", DriveEdgesTest::takeLengths);
        e.edge(24, "those beyond 239 are left out", DriveEdgesTest::takeBeyond);
        e.edge(24, "CLOCK then, less CLOCK now", DriveEdgesTest::takeRounds);
        e.edge(24, "also as the TRAY is open, as if it were shut", DriveEdgesTest::takeWithOpenTray);
        e.edge(24, "by how much CLOCK would be more", DriveEdgesTest::takeChangesNothing);
        e.edge(24, Edges.ORDER, DriveEdgesTest::takeOrder);
    }

    private static void readSectors() {
        Disc x = new Disc();
        for (int sector : NO_SECTORS) {
            c.refuses(x, "SECTOR " + sector, Check.INDEX, () -> x.read(sector));
        }
        c.due("SECTOR 0", 2, x.read(0));
        c.due("SECTOR 239", 2, x.read(239));
        c.due("READS", 2, x.many(9));
    }

    private static void readWithOpenTray() {
        Disc x = Disc.written(1, 1);
        x.tray(true);
        c.refuses(x, "as it is open", Check.STATE, () -> x.read(6));
        c.refuses(x, "where the head is", Check.STATE, () -> x.read(0));
        c.due("no READ", 0, x.many(9));
        c.due("the head stays", 0, x.many(8));
        c.due("the CLOCK stays", 0.0, x.clock());
        x.push();
        c.refuses(x, "pushed, it is open yet", Check.STATE, () -> x.read(6));
        x.tray(false);
        c.due("as it is shut", 0, x.read(6));
        c.due("one READ", 1, x.many(9));
    }

    private static void readStates() {
        Disc x = Disc.opened(1, 4);
        for (int k = 0; k < 3; k++) {
            x.write(0, k);
        }
        x.rot(0);
        x.rot(5);
        x.scratch(1, 1, 60, 359);
        x.scratch(1, 1, 59, 60);
        c.due("BAD, two PLACES are WRONG", 1, x.read(6));
        c.due("GOOD, a column and another PLACE are ERASED", 0, x.read(7));
        c.due("LOST, BLANK", 2, x.read(9));
        c.due("LOST, of no TRACK", 2, x.read(0));
        x.scratch(1, 1, 59, 359);
        c.due("LOST, two columns are ERASED", 2, x.read(7));
    }

    private static void readTakes() {
        Disc x = new Disc();
        x.read(0);
        c.due("no SEEK", 0.5, x.clock());
        x.read(0);
        c.due("back: 2.0, and 300 less 180", 0.5 + (2.0 + 120.0 / 90.0) + 0.5, x.clock());
    }

    private static void readSpeeds() {
        int[] sectors = {0, 58, 59, 60, 138, 139, 140, 239};
        double[] dues = {0.5, 0.5, 0.5, 0.4, 0.4, 0.4, 0.5 / 1.5, 0.5 / 1.5};
        for (int k = 0; k < sectors.length; k++) {
            Disc x = new Disc();
            double sought = x.seek(sectors[k]);
            x.read(sectors[k]);
            c.due("CLOCK behind " + sectors[k], sought + dues[k], x.clock());
        }
    }

    private static void readTheLast() {
        Disc x = new Disc();
        x.read(238);
        c.due("ahead of the last", 239, x.many(8));
        x.read(239);
        c.due("it stays", 239, x.many(8));
        double before = x.clock();
        x.read(239);
        c.due("no SEEK", before + 0.5 / 1.5, x.clock());
        c.due("it stays", 239, x.many(8));
        x.read(0);
        c.due("ahead of the second", 1, x.many(8));
    }

    private static void readOrder() {
        Disc x = new Disc();
        x.tray(true);
        c.refuses(x, "240, the TRAY is open", Check.INDEX, () -> x.read(240));
        c.refuses(x, "-1, the TRAY is open", Check.INDEX, () -> x.read(-1));
    }

    private static void seekSectors() {
        Disc x = new Disc();
        for (int sector : NO_SECTORS) {
            c.refuses(x, "SECTOR " + sector, Check.INDEX, () -> x.seek(sector));
        }
        c.due("SECTOR 0", 0.0, x.seek(0));
        c.due("SECTOR 239", 9.25 + (324.0 - 832.5 + 720.0) / 90.0, x.seek(239));
    }

    private static void seekThere() {
        Disc x = new Disc();
        c.due("at first", 0.0, x.seek(0));
        c.due("the next one is not there", 2.0 + 240.0 / 90.0, x.seek(1));
        x.read(5);
        c.due("behind a READ", 0.0, x.seek(6));
        c.due("what was READ is not there", false, x.seek(5) == 0.0);
        x.read(239);
        c.due("the last one", 0.0, x.seek(239));
    }

    private static void seekBack() {
        Disc x = new Disc();
        x.read(47);
        c.due("the head is in the turn 8 at the ANGLE 0", 48, x.many(8));
        c.due("back to the turn 0: 8 turns are just 360", 4.0, x.seek(0));
        c.due("back to the turn 7: -202.5", 2.25 + 157.5 / 90.0, x.seek(42));
        c.due("on to the turn 9: -202.5, too", 2.25 + 157.5 / 90.0, x.seek(54));
        c.due("in the turn 8: 180 less 180", 2.0, x.seek(51));
    }

    private static void seekWaits() {
        Disc x = new Disc();
        c.due("0 left of 0: 180 less 180", 2.0, x.seek(3));
        c.due("0 left of -360", 4.0, x.seek(48));
        c.due("0 left of -720", 8.0, x.seek(180));
        c.due("above 0: 240 less 180", 2.0 + 60.0 / 90.0, x.seek(4));
        c.due("below 0: 120 less 180", 2.0 + 300.0 / 90.0, x.seek(2));
        c.due("below -360: 0 less 382.5", 4.25 + 337.5 / 90.0, x.seek(54));
        c.due("below -720: 0 less 742.5", 8.25 + 337.5 / 90.0, x.seek(190));
        c.due("above -720: 36 less 742.5", 8.25 + 13.5 / 90.0, x.seek(191));
        x.read(2);
        c.due("the head is at 180", 3, x.many(8));
        c.due("0 less 180 less 180, 0 left of -360", 2.0, x.seek(0));
        c.due("300 less 180 less 180", 2.0 + 300.0 / 90.0, x.seek(5));
    }

    private static void seekWithOpenTray() {
        Disc x = new Disc();
        x.tray(true);
        c.due("2.0", 2.0, x.seek(3));
        c.due("no READ", 0, x.many(9));
        c.due("the head stays", 0, x.many(8));
        c.due("the CLOCK stays", 0.0, x.clock());
        c.due("the TRAY stays", 1, x.many(12));
    }

    private static void clockAtFirst() {
        c.due("CLOCK", 0.0, new Disc().clock());
    }

    private static void clockAlone() {
        Disc x = Disc.written(1, 4);
        x.seek(239);
        x.wouldTake(0, 40);
        x.scratch(0, 29, 0, 359);
        x.push();
        x.tray(true);
        c.refuses(x, "the TRAY is open", Check.STATE, () -> x.read(3));
        c.refuses(x, "no such SECTOR", Check.INDEX, () -> x.read(240));
        c.due("nothing was READ", 0.0, x.clock());
        x.tray(false);
        x.read(3);
        c.due("2.0 and 0.5", 2.5, x.clock());
        x.read(4);
        c.due("and 0.5", 3.0, x.clock());
    }

    private static void angleSectors() {
        Disc x = new Disc();
        for (int sector : NO_SECTORS) {
            c.refuses(x, "SECTOR " + sector, Check.INDEX, () -> x.angle(sector));
        }
        c.due("SECTOR 0", 0.0, x.angle(0));
        c.due("SECTOR 239", 324.0, x.angle(239));
    }

    private static void angleTurns() {
        Disc x = new Disc();
        int s = 0;
        for (int turn = 0; turn < 30; turn++) {
            int has = turn < 10 ? 6 : turn < 20 ? 8 : 10;
            for (int place = 0; place < has; place++) {
                c.due("the turn of " + s, turn, x.ofSector(s, 7));
                c.due("the ANGLE of " + s, place * 360.0 / has, x.angle(s));
                s++;
            }
        }
        c.due("SECTORS", 240, s);
    }

    private static void angleEnds() {
        Disc x = new Disc();
        int[] sectors = {0, 1, 5, 6, 59, 60, 61, 67, 68, 139, 140, 141, 149, 150, 230, 239};
        double[] due = {0, 60, 300, 0, 300, 0, 45, 315, 0, 315, 0, 36, 324, 0, 0, 324};
        for (int k = 0; k < sectors.length; k++) {
            c.due("the ANGLE of " + sectors[k], due[k], x.angle(sectors[k]));
        }
    }

    private static void takeFirsts() {
        Disc x = new Disc();
        for (int first : NO_SECTORS) {
            c.refuses(x, "first " + first, Check.INDEX, () -> x.wouldTake(first, 1));
            c.refuses(x, "40 from " + first, Check.INDEX, () -> x.wouldTake(first, 40));
        }
        c.due("first 0", 0.5, x.wouldTake(0, 1));
        c.due("first 239", 9.25 + 211.5 / 90.0 + 0.5 / 1.5, x.wouldTake(239, 1));
    }

    private static void takeLengths() {
        Disc x = new Disc();
        for (int sectors : new int[] {0, 41, -1, Integer.MIN_VALUE, Integer.MAX_VALUE}) {
            c.refuses(x, sectors + " from 0", Check.ARGUMENT, () -> x.wouldTake(0, sectors));
            c.refuses(x, sectors + " from 239", Check.ARGUMENT, () -> x.wouldTake(239, sectors));
        }
        c.due("1", 0.5, x.wouldTake(0, 1));
        c.due("40", 20.0, x.wouldTake(0, 40));
        x.read(0);
        c.due("39 from where it is", 19.5, x.wouldTake(1, 39));
    }

    private static void takeBeyond() {
        Disc x = new Disc();
        double alone = 9.25 + 211.5 / 90.0 + 0.5 / 1.5;
        c.due("the last one", alone, x.wouldTake(239, 1));
        c.due("and one beyond", alone, x.wouldTake(239, 2));
        c.due("and 39 beyond", alone, x.wouldTake(239, 40));
        c.due("40 up to the last", afterReads(200, 240), x.wouldTake(200, 40));
        c.due("39 up to the last", afterReads(201, 240), x.wouldTake(201, 39));
        c.due("and one beyond", afterReads(201, 240), x.wouldTake(201, 40));
    }

    private static double afterReads(int first, int behind) {
        Disc x = new Disc();
        for (int s = first; s < behind; s++) {
            x.read(s);
        }
        return x.clock();
    }

    /** A third of a second is no double, so that the sum from 0.0 on and that from CLOCK on differ in their ends. */
    private static void takeRounds() {
        Disc x = new Disc();
        x.read(150);
        x.read(170);
        x.read(33);
        double before = x.clock();
        double want = x.wouldTake(141, 17);
        for (int s = 141; s < 158; s++) {
            x.read(s);
        }
        c.due("as 17 READS", x.clock() - before, want);
    }

    private static void takeWithOpenTray() {
        Disc x = new Disc();
        double shut = x.wouldTake(100, 3);
        x.tray(true);
        c.due("as if it were shut", shut, x.wouldTake(100, 3));
        c.due("it is open yet", 1, x.many(12));
    }

    private static void takeChangesNothing() {
        Disc x = Disc.written(1, 3);
        x.read(6);
        String before = x.snapshot();
        x.wouldTake(100, 40);
        x.wouldTake(239, 40);
        c.due("as before", before, x.snapshot());
        c.due("the head stays", 7, x.many(8));
        c.due("one READ", 1, x.many(9));
    }

    private static void takeOrder() {
        Disc x = new Disc();
        c.refuses(x, "240 and 0", Check.INDEX, () -> x.wouldTake(240, 0));
        c.refuses(x, "-1 and 41", Check.INDEX, () -> x.wouldTake(-1, 41));
    }
}
