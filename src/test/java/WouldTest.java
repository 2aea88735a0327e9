/** Promises 25 and 26: what would be. */
public final class WouldTest {
    private static final Check c = new Check("WouldTest");

    public static void main(String[] args) {
        mendsErased();
        mendsRowsFirst();
        sumsInDataAlone();
        sumsModulo251();
        mendRefuses();
        digests();
        c.finish();
    }

    private static Disc written(int mode) {
        Disc x = new Disc();
        x.session();
        x.track(mode, 4);
        x.write(0, 0);
        x.write(0, 0x123456789L);
        return x;
    }

    private static void mendsErased() {
        Disc x = written(1);
        c.due("25 none", 0, x.wouldMend(6, 0));
        for (int place = 0; place < 16; place++) {
            c.due("25 the PLACE " + place, 0, x.wouldMend(7, 1 << place));
        }
        c.due("25 a row", 0, x.wouldMend(7, 0x00F0));
        c.due("25 a column", 0, x.wouldMend(7, 0x4444));
        c.due("25 a row and a column", 0, x.wouldMend(7, 0x4F44));
        c.due("25 stairs, in two rounds", 0, x.wouldMend(7, 0x8C63));
        c.due("25 stairs that meet", 2, x.wouldMend(7, 0x9C63));
        c.due("25 four corners", 2, x.wouldMend(7, 0x9009));
        c.due("25 two rows", 2, x.wouldMend(7, 0x00FF));
        c.due("25 all", 2, x.wouldMend(7, 65535));
        c.due("25 of a BLANK one", 2, x.wouldMend(8, 0));
        c.due("25 nothing is changed", 0, x.ofSector(7, 2));
        x.scratch(1, 1, 0, 359);
        c.due("25 ERASED ones, too", 2, x.wouldMend(6, 0x0011));
        c.due("25 one that is ERASED", 0, x.wouldMend(6, 0x0022));
    }

    private static void mendsRowsFirst() {
        Disc x = written(0);
        x.rot(0);
        c.due("25 a WRONG one", 0, x.wouldMend(6, 0));
        c.due("25 the WRONG one itself", 0, x.wouldMend(6, 1 << 10));
        c.due("25 another row and column", 0, x.wouldMend(6, 1 << 5));
        c.due("25 its row fills from a WRONG one", 1, x.wouldMend(6, 1 << 8));
        c.due("25 its column is later, so all are right", 0, x.wouldMend(6, 1 << 2));
        c.due("25 three in its row: the columns fill", 0, x.wouldMend(6, 0x0B00));
        x.rot(5);
        c.due("25 two WRONG ones", 1, x.wouldMend(6, 0));
        c.due("25 one of them", 0, x.wouldMend(6, 1 << 15));
    }

    /** Rightly EVEN, but four NIBBLES became others: the SUM alone can tell. */
    private static void sumsInDataAlone() {
        int corners = 1 << 1 | 1 << 4 | 1 << 5;
        Disc sound = written(0);
        sound.rot(6);
        c.due("25 SOUND has no SUM", 0, sound.wouldMend(6, corners));
        Disc data = written(1);
        data.rot(6);
        c.due("25 DATA has one", 1, data.wouldMend(6, corners));
        c.due("25 it fits otherwise", 0, data.wouldMend(6, 0));
    }

    /** ROT can make any PLACE of the SECTOR 60 any value, so its BLOCK may become another EVEN one. */
    private static Disc turnedInto(long nibbles) {
        Disc x = new Disc();
        x.session();
        x.track(1, 40);
        x.track(1, 40);
        while (x.ofSector(60, 1) == 0) {
            x.write(1, 0);
        }
        Disc other = new Disc();
        other.session();
        other.track(1, 40);
        other.track(1, 40);
        while (other.ofSector(60, 1) == 0) {
            other.write(1, nibbles);
        }
        for (int place = 0; place < 16; place++) {
            int by = x.place(60, place) ^ other.place(60, place);
            for (int r = 0; r < 240; r++) {
                if ((60 * 7 + r) % 16 == place && r % 15 + 1 == by) {
                    x.rot(r);
                }
            }
        }
        return x;
    }

    private static void sumsModulo251() {
        Disc fits = turnedInto(0xFE0001000L);
        c.due("25 another one comes out", 0xFE0001000L, fits.nibbles(60, true));
        c.due("25 9 times 15, 8 times 14 and 4 are 251", 0, fits.wouldMend(60, 0));
        Disc fitsNot = turnedInto(0xFE0001001L);
        c.due("25 252 is not 0", 1, fitsNot.wouldMend(60, 0));
    }

    private static void mendRefuses() {
        Disc x = written(1);
        c.refuses(x, "25 -1", Check.INDEX, () -> x.wouldMend(-1, 0));
        c.refuses(x, "25 240", Check.INDEX, () -> x.wouldMend(240, 0));
        c.refuses(x, "25 240 ahead of the set", Check.INDEX, () -> x.wouldMend(240, -1));
        c.refuses(x, "25 set -1", Check.ARGUMENT, () -> x.wouldMend(6, -1));
        c.refuses(x, "25 set 65536", Check.ARGUMENT, () -> x.wouldMend(6, 65536));
        c.refuses(x, "25 set of a BLANK one", Check.ARGUMENT, () -> x.wouldMend(0, 65536));
    }

    private static void digests() {
        c.due("26 a new one", -8771326024716431228L, new Disc().digest());
        Disc x = written(1);
        c.due("26 WRITTEN", summed(x), x.digest());
        x.file(2, 6, 3);
        x.rot(0);
        x.scratch(1, 1, 60, 359);
        x.scratch(1, 1, 59, 358);
        x.read(7);
        x.push();
        x.close(0);
        x.end();
        x.session();
        x.track(0, 2);
        x.write(1, 77);
        c.due("26 LOST, told and READ", summed(x), x.digest());
        c.due("26 nothing is changed", x.digest(), x.digest());
        long before = x.digest();
        x.tray(true);
        c.due("26 another state", false, before == x.digest());
    }

    private static long summed(Disc x) {
        long d = 9600;
        for (int what = 0; what <= 12; what++) {
            d = d * 31 + x.many(what);
        }
        for (int t = 0; t < x.many(1); t++) {
            for (int what = 0; what <= 7; what++) {
                d = d * 31 + x.ofTrack(t, what);
            }
        }
        int next = x.many(2);
        for (int s = 0; s < next; s++) {
            boolean isWritten = x.ofSector(s, 1) == 1;
            for (int what = 2; what <= 6 && isWritten; what++) {
                d = d * 31 + x.ofSector(s, what);
            }
            d = isWritten ? d * 31 + x.nibbles(s, true) : d;
        }
        for (int f = 0; f < 10; f++) {
            for (int s = 0; s < x.many(0); s++) {
                for (int what = 0; what <= 2; what++) {
                    d = d * 31 + x.ofFile(f, s, what);
                }
            }
        }
        return d * 31 + (long) x.clock();
    }
}
