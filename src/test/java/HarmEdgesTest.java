/** Boundary cases of the promises 9 to 12: SCRATCH, ROT and the TRAY. */
public final class HarmEdgesTest {
    private static final Edges e = new Edges("HarmEdgesTest");
    private static final Check c = e.check;

    public static void main(String[] args) {
        scratchEdges();
        rotEdges();
        e.edge(11, "(shut at first)", HarmEdgesTest::trayAtFirst);
        e.edge(11, "Returns whether it was.", HarmEdgesTest::trayTwice);
        e.edge(12, "REFUSED (always; the TRAY stays as it is)", HarmEdgesTest::pushLeavesTheTray);
        e.edge(12, "Returns how often it was REFUSED ever, with this.", HarmEdgesTest::pushCounts);
        e.finish(9, 10, 11, 12);
    }

    private static void scratchEdges() {
        e.edge(9, "from is not 0 to 29", HarmEdgesTest::scratchFrom);
        e.edge(9, "to not from to 29", HarmEdgesTest::scratchTo);
        e.edge(9, "angle not 0 to 359", HarmEdgesTest::scratchAngle);
        e.edge(9, "end not angle to 359", HarmEdgesTest::scratchEnd);
        e.edge(9, "from a turn to a turn (both with)", HarmEdgesTest::scratchTurns);
        e.edge(9, "each SECTOR WRITTEN of these whose ANGLE is in that (both with)", HarmEdgesTest::scratchAngles);
        e.edge(9, "the column (its turn, and the first angle) modulo 4", HarmEdgesTest::scratchColumns);
        e.edge(9, "the PLACES of the rows 0 to (last angle, less the first one) / 90 ERASED",
            HarmEdgesTest::scratchRows);
        e.edge(9, "Returns how many SECTORS WRITTEN it met.", HarmEdgesTest::scratchMeets);
        e.edge(9, "ERASED (its value is lost, and one knows that)", HarmEdgesTest::scratchTakesWrongOnes);
    }

    private static void rotEdges() {
        e.edge(10, "r is not 0 to 999", HarmEdgesTest::rotNumbers);
        e.edge(10, "each SECTOR WRITTEN that can be divided by (r modulo 5, and 2)", HarmEdgesTest::rotDivisors);
        e.edge(10, "the PLACE (SECTOR times 7, and r) modulo 16", HarmEdgesTest::rotPlaces);
        e.edge(10, "its value is exclusive or (r modulo 15, and 1)", HarmEdgesTest::rotValues);
        e.edge(10, "WRONG, if it is not ERASED", HarmEdgesTest::rotSparesErased);
        e.edge(10, "Returns how many PLACES were changed by it (WRONG ones, too).", HarmEdgesTest::rotCounts);
    }

    /** The last 24 SECTORS, of the turns 27 to 29, are WRITTEN. */
    private static Disc writtenAtTheEnd() {
        Disc x = new Disc();
        x.session();
        for (int t = 0; t < 5; t++) {
            x.track(0, 40);
        }
        x.track(1, 24);
        for (int k = 0; k < 24; k++) {
            x.write(5, k);
        }
        return x;
    }

    private static void scratchFrom() {
        Disc x = Disc.written(1, 2);
        for (int from : new int[] {-1, 30, Integer.MIN_VALUE, Integer.MAX_VALUE}) {
            c.refuses(x, "from " + from, Check.ARGUMENT, () -> x.scratch(from, 29, 0, 359));
            c.refuses(x, "from and to " + from, Check.ARGUMENT, () -> x.scratch(from, from, 0, 359));
        }
        c.due("from 0", 2, x.scratch(0, 29, 0, 359));
        c.due("from 29", 0, x.scratch(29, 29, 0, 359));
        c.due("from 29, that is WRITTEN", 10, writtenAtTheEnd().scratch(29, 29, 0, 359));
    }

    private static void scratchTo() {
        Disc x = Disc.written(1, 2);
        c.refuses(x, "1 to 0", Check.ARGUMENT, () -> x.scratch(1, 0, 0, 359));
        c.refuses(x, "29 to 28", Check.ARGUMENT, () -> x.scratch(29, 28, 0, 359));
        for (int to : new int[] {-1, 30, Integer.MIN_VALUE, Integer.MAX_VALUE}) {
            c.refuses(x, "to " + to, Check.ARGUMENT, () -> x.scratch(0, to, 0, 359));
        }
        c.due("1 to 1", 2, x.scratch(1, 1, 0, 359));
        c.due("1 to 29", 2, x.scratch(1, 29, 0, 359));
        c.due("0 to 0", 0, x.scratch(0, 0, 0, 359));
    }

    private static void scratchAngle() {
        Disc x = Disc.written(1, 2);
        for (int angle : new int[] {-1, 360, Integer.MIN_VALUE, Integer.MAX_VALUE}) {
            c.refuses(x, "angle " + angle, Check.ARGUMENT, () -> x.scratch(0, 29, angle, 359));
            c.refuses(x, "angle and end " + angle, Check.ARGUMENT, () -> x.scratch(0, 29, angle, angle));
        }
        c.due("angle 0", 2, x.scratch(0, 29, 0, 359));
        c.due("angle 359", 0, x.scratch(0, 29, 359, 359));
    }

    private static void scratchEnd() {
        Disc x = Disc.written(1, 2);
        c.refuses(x, "1 to 0", Check.ARGUMENT, () -> x.scratch(0, 29, 1, 0));
        c.refuses(x, "359 to 358", Check.ARGUMENT, () -> x.scratch(0, 29, 359, 358));
        for (int end : new int[] {-1, 360, 720, Integer.MIN_VALUE, Integer.MAX_VALUE}) {
            c.refuses(x, "end " + end, Check.ARGUMENT, () -> x.scratch(0, 29, 0, end));
        }
        c.due("0 to 0", 1, x.scratch(0, 29, 0, 0));
        c.due("0 to 359", 2, x.scratch(0, 29, 0, 359));
    }

    private static void scratchTurns() {
        Disc x = Disc.written(1, 18);
        c.due("the turn 1 from its first SECTOR on", 6, x.scratch(1, 1, 0, 359));
        c.due("its first", 1, x.ofSector(6, 2) / 4);
        c.due("its last", 1, x.ofSector(11, 2) / 4);
        c.due("the next one is of the turn 2", 0, x.ofSector(12, 2));
        c.due("the turns 1 and 2", 12, x.scratch(1, 2, 0, 359));
        c.due("the turns 2 and 3", 12, x.scratch(2, 3, 0, 359));
        c.due("the turns ahead", 0, x.scratch(0, 0, 0, 359));
        c.due("the turns behind", 0, x.scratch(4, 29, 0, 359));
        Disc y = writtenAtTheEnd();
        c.due("up to the turn 28", 14, y.scratch(0, 28, 0, 359));
        c.due("the last SECTOR is not met", 0, y.ofSector(239, 2));
        c.due("the turn 29", 10, y.scratch(29, 29, 0, 359));
        c.due("the last SECTOR is met", 4, y.ofSector(239, 2));
    }

    private static void scratchAngles() {
        Disc x = Disc.written(1, 6);
        c.due("60 alone", 1, x.scratch(1, 1, 60, 60));
        c.due("60 to 119", 1, x.scratch(1, 1, 60, 119));
        c.due("60 to 120", 2, x.scratch(1, 1, 60, 120));
        c.due("61 to 120", 1, x.scratch(1, 1, 61, 120));
        c.due("61 to 119", 0, x.scratch(1, 1, 61, 119));
        c.due("0 alone", 1, x.scratch(1, 1, 0, 0));
        c.due("1 to 59", 0, x.scratch(1, 1, 1, 59));
        c.due("300 to 359", 1, x.scratch(1, 1, 300, 359));
        c.due("301 to 359", 0, x.scratch(1, 1, 301, 359));
        Disc y = writtenAtTheEnd();
        c.due("324 alone, of three turns", 3, y.scratch(27, 29, 324, 324));
        c.due("325 to 359", 0, y.scratch(27, 29, 325, 359));
        c.due("289 to 323", 0, y.scratch(27, 29, 289, 323));
        c.due("288 to 324", 6, y.scratch(27, 29, 288, 324));
    }

    private static void scratchColumns() {
        int[] angles = {0, 1, 2, 3, 4, 60};
        int[] columns = {1, 2, 3, 0, 1, 1};
        for (int k = 0; k < angles.length; k++) {
            Disc x = Disc.written(1, 6);
            x.scratch(1, 1, angles[k], 60);
            for (int column = 0; column < 4; column++) {
                c.due("the turn 1, the angle " + angles[k] + ": " + column + " is ERASED", column == columns[k],
                    x.place(7, column) == -1);
            }
        }
        Disc y = writtenAtTheEnd();
        y.scratch(29, 29, 324, 324);
        c.due("the turn 29, the angle 324", -1, y.place(239, 1));
        y.scratch(28, 28, 35, 36);
        c.due("the turn 28, the angle 35", -1, y.place(221, 3));
    }

    private static void scratchRows() {
        int[] ends = {60, 61, 149, 150, 239, 240, 329, 330, 359};
        int[] rows = {1, 1, 1, 2, 2, 3, 3, 4, 4};
        for (int k = 0; k < ends.length; k++) {
            Disc x = Disc.written(1, 6);
            x.scratch(1, 1, 60, ends[k]);
            c.due("60 to " + ends[k] + ": rows", rows[k], x.ofSector(7, 2));
            for (int row = 0; row < 4; row++) {
                boolean isErased = x.place(7, 4 * row + 1) == -1;
                c.due("60 to " + ends[k] + ": the row " + row + " is ERASED", row < rows[k], isErased);
            }
        }
        int[] fromZero = {0, 89, 90, 179, 180, 269, 270, 359};
        for (int k = 0; k < fromZero.length; k++) {
            Disc x = Disc.written(1, 1);
            x.scratch(1, 1, 0, fromZero[k]);
            c.due("0 to " + fromZero[k], k / 2 + 1, x.ofSector(6, 2));
        }
    }

    private static void scratchMeets() {
        c.due("a new DISC", 0, new Disc().scratch(0, 29, 0, 359));
        Disc x = Disc.opened(1, 6);
        c.due("RESERVED, but BLANK", 0, x.scratch(0, 29, 0, 359));
        c.due("nothing is ERASED", 0, x.ofSector(6, 2));
        x.write(0, 1);
        x.starve(0);
        x.write(0, 1);
        c.due("without the LINK", 2, x.scratch(0, 29, 0, 359));
        c.due("ERASED ones, too", 2, x.scratch(0, 29, 0, 359));
        c.due("a whole DISC", 24, writtenAtTheEnd().scratch(0, 29, 0, 359));
    }

    private static void scratchTakesWrongOnes() {
        Disc x = Disc.opened(1, 1);
        x.write(0, 0x123456789L);
        x.rot(55);
        c.due("the PLACE 42 and 55 modulo 16 is WRONG", false, x.nibbles(6, false) == 0x123456789L);
        x.scratch(1, 1, 0, 0);
        c.due("it is ERASED", -1, x.place(6, 1));
        c.due("and comes out right", 0x123456789L, x.nibbles(6, true));
        c.due("as a 0 ahead of its MASK 4", 0x123456749L, x.nibbles(6, false));
    }

    private static void rotNumbers() {
        Disc x = Disc.written(1, 7);
        for (int r : new int[] {-1, 1000, Integer.MIN_VALUE, Integer.MAX_VALUE}) {
            c.refuses(x, "r " + r, Check.ARGUMENT, () -> x.rot(r));
        }
        c.due("r 0", 4, x.rot(0));
        c.due("r 999", 2, x.rot(999));
    }

    private static void rotDivisors() {
        int[] numbers = {0, 1, 2, 3, 4, 5, 9, 10, 998, 999};
        int[] divisors = {2, 3, 4, 5, 6, 2, 6, 2, 5, 6};
        for (int k = 0; k < numbers.length; k++) {
            Disc x = Disc.written(0, 40);
            Disc untouched = Disc.written(0, 40);
            int due = 0;
            x.rot(numbers[k]);
            for (int s = 6; s < 46; s++) {
                boolean isMet = s % divisors[k] == 0;
                due += isMet ? 1 : 0;
                int place = (7 * s + numbers[k]) % 16;
                c.due("r " + numbers[k] + " changes " + s, isMet, x.place(s, place) != untouched.place(s, place));
            }
            c.due("r " + numbers[k] + " meets", due, x.rot(numbers[k]));
        }
    }

    private static void rotPlaces() {
        Disc x = Disc.written(0, 1);
        Disc untouched = Disc.written(0, 1);
        int[] numbers = {5, 6, 21, 54, 995};
        int[] places = {15, 0, 15, 0, 13};
        int[] by = {6, 7, 7, 10, 6};
        int[] values = new int[16];
        for (int place = 0; place < 16; place++) {
            values[place] = untouched.place(6, place);
        }
        for (int k = 0; k < numbers.length; k++) {
            x.rot(numbers[k]);
            values[places[k]] ^= by[k];
            for (int place = 0; place < 16; place++) {
                c.due("behind r " + numbers[k] + " at " + place, values[place], x.place(6, place));
            }
        }
        Disc last = writtenAtTheEnd();
        int was = last.place(238, 3);
        c.due("even ones of 24", 12, last.rot(945));
        c.due("238 times 7, and 945, modulo 16: 3, by 1", was ^ 1, last.place(238, 3));
    }

    private static void rotValues() {
        int[] numbers = {0, 13, 14, 15, 16, 29, 30, 989, 990, 999};
        int[] by = {1, 14, 15, 1, 2, 15, 1, 15, 1, 10};
        for (int k = 0; k < numbers.length; k++) {
            int sector = 60;
            Disc x = new Disc();
            x.session();
            x.track(0, 40);
            x.track(0, 13);
            for (int s = 48; s <= sector; s++) {
                x.write(1, 0xABCDEF012L);
            }
            int place = (7 * sector + numbers[k]) % 16;
            int was = x.place(sector, place);
            x.rot(numbers[k]);
            c.due("r " + numbers[k], was ^ by[k], x.place(sector, place));
        }
    }

    private static void rotSparesErased() {
        Disc x = Disc.opened(1, 1);
        x.write(0, 0x123456789L);
        x.scratch(1, 1, 0, 0);
        c.due("the PLACE 1 is ERASED", 0, x.rot(55));
        c.due("it stays ERASED", -1, x.place(6, 1));
        c.due("it comes out as before", 0x123456789L, x.nibbles(6, true));
        c.due("as a 0 ahead of its MASK", 0x123456749L, x.nibbles(6, false));
        c.due("the PLACE 15 is not ERASED", 1, x.rot(5));
    }

    private static void rotCounts() {
        c.due("a new DISC", 0, new Disc().rot(0));
        Disc x = Disc.opened(1, 10);
        c.due("RESERVED, but BLANK", 0, x.rot(0));
        c.due("BLANK yet", -1, x.place(6, 10));
        for (int k = 0; k < 8; k++) {
            x.write(0, k);
        }
        x.starve(0);
        int was = x.place(6, 10);
        c.due("6, 8, 10 and 12, not the LINK 14", 4, x.rot(0));
        c.due("WRONG", was ^ 1, x.place(6, 10));
        c.due("WRONG ones", 4, x.rot(0));
        c.due("right again", was, x.place(6, 10));
        x.scratch(1, 1, 1, 359);
        c.due("the PLACE 6 of 10 is ERASED, the others are not", 3, x.rot(0));
    }

    private static void trayAtFirst() {
        c.due("shut", false, new Disc().tray(true));
        c.due("not open", 0, new Disc().many(12));
        c.due("it READS", 2, new Disc().read(0));
    }

    private static void trayTwice() {
        Disc x = new Disc();
        c.due("shut as it is shut", false, x.tray(false));
        c.due("opened", false, x.tray(true));
        c.due("opened as it is open", true, x.tray(true));
        c.due("open", 1, x.many(12));
        c.due("shut as it is open", true, x.tray(false));
        c.due("shut as it is shut", false, x.tray(false));
        c.due("shut", 0, x.many(12));
    }

    private static void pushLeavesTheTray() {
        Disc x = new Disc();
        x.push();
        c.due("shut, it stays shut", 0, x.many(12));
        x.tray(true);
        x.push();
        c.due("open, it stays open", 1, x.many(12));
        c.due("REFUSED as open, too", 2, x.many(11));
    }

    private static void pushCounts() {
        Disc x = new Disc();
        c.due("none yet", 0, x.many(11));
        for (int k = 1; k <= 500; k++) {
            c.due("with this", k, x.push());
        }
        c.due("ever", 500, x.many(11));
    }
}
