/** Promises 13 to 16 and 24: the drive. */
public final class DriveTest {
    private static final Check c = new Check("DriveTest");

    public static void main(String[] args) {
        reads();
        readStates();
        readRefuses();
        seeks();
        seeksLikeRemainder();
        angles();
        clocks();
        takes();
        takeRefuses();
        c.finish();
    }

    private static void reads() {
        Disc x = new Disc();
        c.due("13 BLANK", 2, x.read(0));
        c.due("13 no SEEK, 0.5 by 1", 0.5, x.clock());
        c.due("13 the head is ahead of the next", 1, x.many(8));
        c.due("13 READS", 1, x.many(9));
        x.read(1);
        c.due("13 in a row", 1.0, x.clock());
        x.read(59);
        x.read(60);
        c.due("13 the head", 61, x.many(8));
        double before = x.clock();
        x.read(61);
        c.due("13 0.5 by 1.25", before + 0.4, x.clock());
        x.read(239);
        c.due("13 the last one", 239, x.many(8));
        before = x.clock();
        x.read(239);
        c.due("13 it stays there: 0.5 by 1.5", before + 0.5 / 1.5, x.clock());
        c.due("13 READS", 7, x.many(9));
    }

    private static void readStates() {
        Disc x = new Disc();
        x.session();
        x.track(1, 3);
        x.write(0, 1);
        x.write(0, 2);
        x.write(0, 3);
        x.rot(0);
        c.due("13 GOOD with one WRONG", 0, x.read(6));
        x.rot(5);
        c.due("13 BAD with two in two rows and columns", 1, x.read(6));
        c.due("13 GOOD, since 7 is not met", 0, x.read(7));
        x.scratch(1, 1, 60, 359);
        c.due("13 GOOD without a column", 0, x.read(7));
        x.scratch(1, 1, 59, 358);
        c.due("13 LOST without two", 2, x.read(7));
        x.tray(true);
        x.tray(false);
        c.due("13 shut again", 2, x.read(7));
    }

    private static void readRefuses() {
        Disc x = new Disc();
        c.refuses(x, "13 -1", Check.INDEX, () -> x.read(-1));
        c.refuses(x, "13 240", Check.INDEX, () -> x.read(240));
        x.tray(true);
        c.refuses(x, "13 the TRAY is open", Check.STATE, () -> x.read(0));
        c.refuses(x, "13 240 ahead of the TRAY", Check.INDEX, () -> x.read(240));
        c.due("13 no READ", 0, x.many(9));
    }

    private static void seeks() {
        Disc x = new Disc();
        c.due("14 it is there", 0.0, x.seek(0));
        c.due("14 60 less 180, and 360", 2.0 + 240.0 / 90.0, x.seek(1));
        c.due("14 300 less 180", 2.0 + 120.0 / 90.0, x.seek(5));
        c.due("14 180 less 180", 2.0, x.seek(3));
        c.due("14 a turn further: 0 less 202.5", 2.25 + 157.5 / 90.0, x.seek(6));
        c.due("14 29 turns", 9.25 + (324.0 - 832.5 + 720.0) / 90.0, x.seek(239));
        c.due("14 nothing is changed", 0, x.many(8));
        c.due("14 nor the CLOCK", 0.0, x.clock());
        x.tray(true);
        c.due("14 as if it were shut", 2.0, x.seek(3));
        c.refuses(x, "14 -1", Check.INDEX, () -> x.seek(-1));
        c.refuses(x, "14 240", Check.INDEX, () -> x.seek(240));
        c.refuses(x, "14 most", Check.INDEX, () -> x.seek(Integer.MAX_VALUE));
    }

    /** PitHouse may not use % on doubles, so all ways are compared with it. */
    private static void seeksLikeRemainder() {
        int[] turns = new int[240];
        double[] angles = new double[240];
        Disc asked = new Disc();
        for (int s = 0; s < 240; s++) {
            turns[s] = asked.ofSector(s, 7);
            angles[s] = asked.angle(s);
        }
        for (int from = 0; from < 240; from++) {
            Disc x = new Disc();
            if (from > 0) {
                x.read(from - 1);
            }
            for (int to = 0; to < 240; to++) {
                double base = 2.0 + 0.25 * Math.abs(turns[to] - turns[from]);
                double rest = (angles[to] - angles[from] - 90.0 * base) % 360.0;
                if (rest < 0) {
                    rest += 360.0;
                }
                double want = from == to ? 0.0 : base + rest / 90.0;
                c.due("14 from " + from + " to " + to, want, x.seek(to));
            }
        }
    }

    private static void angles() {
        Disc x = new Disc();
        c.due("16 the first", 0.0, x.angle(0));
        c.due("16 6 in a turn", 60.0, x.angle(7));
        c.due("16 the last of them", 300.0, x.angle(59));
        c.due("16 8 in a turn", 45.0, x.angle(61));
        c.due("16 the last of them", 315.0, x.angle(139));
        c.due("16 10 in a turn", 36.0, x.angle(141));
        c.due("16 the last", 324.0, x.angle(239));
        c.refuses(x, "16 -1", Check.INDEX, () -> x.angle(-1));
        c.refuses(x, "16 240", Check.INDEX, () -> x.angle(240));
    }

    private static void clocks() {
        Disc x = new Disc();
        c.due("15 at first", 0.0, x.clock());
        x.session();
        x.track(0, 3);
        x.push();
        c.due("15 READS alone take time", 0.0, x.clock());
        x.read(3);
        c.due("15 a SEEK and a READ", 2.5, x.clock());
        x.read(4);
        c.due("15 another READ", 3.0, x.clock());
    }

    private static void takes() {
        Disc x = new Disc();
        c.due("24 one", 0.5, x.wouldTake(0, 1));
        c.due("24 six", 3.0, x.wouldTake(0, 6));
        c.due("24 with a SEEK", 3.0, x.wouldTake(3, 2));
        c.due("24 nothing is changed", 0.0, x.clock());
        c.due("24 nor the head", 0, x.many(8));
        c.due("24 nor the READS", 0, x.many(9));
        double alone = 9.25 + 211.5 / 90.0 + 0.5 / 1.5;
        c.due("24 the last one", alone, x.wouldTake(239, 1));
        c.due("24 beyond 239", alone, x.wouldTake(239, 40));
        x.read(230);
        double before = x.clock();
        double want = x.wouldTake(55, 40);
        x.tray(true);
        c.due("24 as if it were shut", want, x.wouldTake(55, 40));
        x.tray(false);
        for (int s = 55; s < 95; s++) {
            x.read(s);
        }
        c.due("24 as 40 READS", x.clock() - before, want);
    }

    private static void takeRefuses() {
        Disc x = new Disc();
        c.refuses(x, "24 -1", Check.INDEX, () -> x.wouldTake(-1, 1));
        c.refuses(x, "24 240", Check.INDEX, () -> x.wouldTake(240, 1));
        c.refuses(x, "24 240 ahead of 0", Check.INDEX, () -> x.wouldTake(240, 0));
        c.refuses(x, "24 0", Check.ARGUMENT, () -> x.wouldTake(0, 0));
        c.refuses(x, "24 41", Check.ARGUMENT, () -> x.wouldTake(0, 41));
        c.refuses(x, "24 most", Check.ARGUMENT, () -> x.wouldTake(239, Integer.MAX_VALUE));
    }
}
