/** Boundary cases of the promise 26. */
public final class DigestEdgesTest {
    private static final Edges e = new Edges("DigestEdgesTest");
    private static final Check c = e.check;

    public static void main(String[] args) {
        e.edge(26, "A number d starts with 9600", DigestEdgesTest::ofNew);
        e.edge(26, "which wraps around as a 64-bit integer", DigestEdgesTest::wrapsAround);
        e.edge(26, "TRACK by TRACK ofTrack() of 0 to 7", DigestEdgesTest::ofTracks);
        e.edge(26, "SECTOR by SECTOR that is WRITTEN ofSector() of 2 to 6, nibbles() of true",
            DigestEdgesTest::ofSectors);
        e.edge(26, "FILE by FILE and SESSION by SESSION ofFile() of 0 to 2", DigestEdgesTest::ofFiles);
        e.edge(26, "CLOCK (cut to a whole number)", DigestEdgesTest::cutsClock);
        e.edge(26, "(nothing is changed)", DigestEdgesTest::changesNothing);
        e.finish(26);
    }

    private static void ofNew() {
        Disc x = new Disc();
        c.due("a new one", -8771326024716431228L, x.digest());
        c.due("by 31 and 13 numbers and the CLOCK", x.reckonedDigest(), x.digest());
    }

    private static void wrapsAround() {
        Disc x = Disc.written(1, 9);
        for (int f = 0; f < 10; f++) {
            x.file(f, 6 + f % 3, 1 + f % 4);
        }
        c.due("many hundred times 31", x.reckonedDigest(), x.digest());
    }

    private static void ofTracks() {
        Disc x = new Disc();
        x.session();
        c.due("a SESSION without TRACKS", x.reckonedDigest(), x.digest());
        for (int t = 0; t < 8; t++) {
            x.track(t % 2, 2);
        }
        x.write(7, 5);
        x.starve(6);
        x.close(7);
        c.due("8 TRACKS", x.reckonedDigest(), x.digest());
    }

    private static void ofSectors() {
        Disc x = Disc.opened(1, 7);
        c.due("none is WRITTEN", x.reckonedDigest(), x.digest());
        x.write(0, 7);
        x.starve(0);
        x.write(0, 8);
        x.write(0, 9);
        c.due("with a LINK", x.reckonedDigest(), x.digest());
        x.rot(0);
        x.rot(5);
        c.due("BAD ones", x.reckonedDigest(), x.digest());
        x.scratch(1, 1, 59, 359);
        x.scratch(1, 1, 60, 358);
        c.due("LOST", 2, x.ofSector(9, 3));
        c.due("LOST ones", x.reckonedDigest(), x.digest());
        Disc last = Disc.filledTo(237);
        last.track(1, 1);
        last.write(6, 68719476735L);
        c.due("the last one of the DISC", last.reckonedDigest(), last.digest());
    }

    private static void ofFiles() {
        Disc x = Disc.written(1, 4);
        c.due("none is told", x.reckonedDigest(), x.digest());
        x.file(9, 6, 4);
        c.due("the FILE 9", x.reckonedDigest(), x.digest());
        x.close(0);
        x.end();
        c.due("as it is CLOSED", x.reckonedDigest(), x.digest());
        x.session();
        x.file(0, 7, 1);
        c.due("the FILE 0, later", x.reckonedDigest(), x.digest());
        x.end();
        Disc y = new Disc();
        for (int k = 0; k < 3; k++) {
            y.session();
            y.end();
        }
        c.due("3 SESSIONS", y.reckonedDigest(), y.digest());
    }

    private static void cutsClock() {
        Disc x = new Disc();
        x.read(0);
        c.due("CLOCK", 0.5, x.clock());
        c.due("0.5 is 0", x.reckonedDigest(), x.digest());
        x.read(1);
        c.due("1.0 is 1", x.reckonedDigest(), x.digest());
        x.read(4);
        c.due("CLOCK", 1.0 + (2.0 + 300.0 / 90.0) + 0.5, x.clock());
        c.due("6.8 is 6", x.reckonedDigest(), x.digest());
    }

    private static void changesNothing() {
        Disc x = Disc.written(1, 4);
        x.read(6);
        String before = x.snapshot();
        long first = x.digest();
        c.due("the same once more", first, x.digest());
        c.due("as before", before, x.snapshot());
    }
}
