/** Promises 25 and 26: what would be. */
public final class WouldTest {
    private static final Check c = new Check("WouldTest");

    public static void main(String[] args) {
        mendsErased();
        mendsRowsFirst();
        sumsInDataAlone();
        mendRefuses();
        digests();
        c.finish();
    }

    private static Disc written(int mode) {
        Disc x = new Disc();
        x.session();
        x.track(mode, 4);
        x.write(0, 0);
        x.write(0, 0x123456789L);
        return x;
    }

    private static void mendsErased() {
        Disc x = written(1);
        c.due("25 none", 0, x.wouldMend(6, 0));
        for (int place = 0; place < 16; place++) {
            c.due("25 the PLACE " + place, 0, x.wouldMend(7, 1 << place));
        }
        c.due("25 a row", 0, x.wouldMend(7, 0x00F0));
        c.due("25 a column", 0, x.wouldMend(7, 0x4444));
        c.due("25 a row and a column", 0, x.wouldMend(7, 0x4F44));
        c.due("25 stairs, in two rounds", 0, x.wouldMend(7, 0x8C63));
        c.due("25 stairs that meet", 2, x.wouldMend(7, 0x9C63));
        c.due("25 four corners", 2, x.wouldMend(7, 0x9009));
        c.due("25 two rows", 2, x.wouldMend(7, 0x00FF));
        c.due("25 all", 2, x.wouldMend(7, 65535));
        c.due("25 of a BLANK one", 2, x.wouldMend(8, 0));
        c.due("25 nothing is changed", 0, x.ofSector(7, 2));
        x.scratch(1, 1, 0, 359);
        c.due("25 ERASED ones, too", 2, x.wouldMend(6, 0x0011));
        c.due("25 one that is ERASED", 0, x.wouldMend(6, 0x0022));
    }

    private static void mendsRowsFirst() {
        Disc x = written(0);
        x.rot(0);
        c.due("25 a WRONG one", 0, x.wouldMend(6, 0));
        c.due("25 the WRONG one itself", 0, x.wouldMend(6, 1 << 10));
        c.due("25 another row and column", 0, x.wouldMend(6, 1 << 5));
        c.due("25 its row fills from a WRONG one", 1, x.wouldMend(6, 1 << 8));
        c.due("25 its column is later, so all are right", 0, x.wouldMend(6, 1 << 2));
        c.due("25 three in its row: the columns fill", 0, x.wouldMend(6, 0x0B00));
        x.rot(5);
        c.due("25 two WRONG ones", 1, x.wouldMend(6, 0));
        c.due("25 one of them", 0, x.wouldMend(6, 1 << 15));
    }

    /** Rightly EVEN, but four NIBBLES became others: the SUM alone can tell. */
    private static void sumsInDataAlone() {
        int corners = 1 << 1 | 1 << 4 | 1 << 5;
        Disc sound = written(0);
        sound.rot(6);
        c.due("25 SOUND has no SUM", 0, sound.wouldMend(6, corners));
        Disc data = written(1);
        data.rot(6);
        c.due("25 DATA has one", 1, data.wouldMend(6, corners));
        c.due("25 it fits otherwise", 0, data.wouldMend(6, 0));
    }

    private static void mendRefuses() {
        Disc x = written(1);
        c.refuses(x, "25 -1", Check.INDEX, () -> x.wouldMend(-1, 0));
        c.refuses(x, "25 240", Check.INDEX, () -> x.wouldMend(240, 0));
        c.refuses(x, "25 240 ahead of the set", Check.INDEX, () -> x.wouldMend(240, -1));
        c.refuses(x, "25 set -1", Check.ARGUMENT, () -> x.wouldMend(6, -1));
        c.refuses(x, "25 set 65536", Check.ARGUMENT, () -> x.wouldMend(6, 65536));
        c.refuses(x, "25 set of a BLANK one", Check.ARGUMENT, () -> x.wouldMend(0, 65536));
    }

    private static void digests() {
        c.due("26 a new one", -8771326024716431228L, new Disc().digest());
        Disc x = written(1);
        c.due("26 WRITTEN", x.reckonedDigest(), x.digest());
        x.file(2, 6, 3);
        x.rot(0);
        x.scratch(1, 1, 60, 359);
        x.scratch(1, 1, 59, 358);
        x.read(7);
        x.push();
        x.close(0);
        x.end();
        x.session();
        x.track(0, 2);
        x.write(1, 77);
        c.due("26 LOST, told and READ", x.reckonedDigest(), x.digest());
        c.due("26 nothing is changed", x.digest(), x.digest());
        long before = x.digest();
        x.tray(true);
        c.due("26 another state", false, before == x.digest());
    }

}
