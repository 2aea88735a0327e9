/** Promises 9 to 12: what happens to it. */
public final class HarmTest {
    private static final Check c = new Check("HarmTest");

    public static void main(String[] args) {
        scratchMeets();
        scratchErases();
        scratchRefuses();
        rotChanges();
        rotSparesErased();
        rotRefuses();
        trayOpens();
        pushIsRefused();
        c.finish();
    }

    private static void scratchMeets() {
        Disc x = Disc.written(1, 14);
        c.due("9 from 6 to 19", 14, x.scratch(0, 29, 0, 359));
        c.due("9 the turn 1", 6, x.scratch(1, 1, 0, 359));
        c.due("9 two of its turns", 8, x.scratch(2, 3, 0, 300));
        c.due("9 BLANK ones", 0, x.scratch(0, 0, 0, 359));
        c.due("9 both angles with", 2, x.scratch(1, 1, 60, 120));
        c.due("9 one angle", 1, x.scratch(1, 1, 60, 60));
        c.due("9 no angle", 0, x.scratch(1, 1, 61, 119));
        c.due("9 edge", 1, x.scratch(1, 1, 300, 359));
        c.due("9 met again", 1, x.scratch(1, 1, 300, 359));
    }

    private static void scratchErases() {
        Disc x = Disc.written(1, 14);
        x.scratch(1, 1, 0, 89);
        c.due("9 the row 0 alone", 1, x.ofSector(6, 2));
        c.due("9 in the column 1", -1, x.place(6, 1));
        x.scratch(2, 2, 1, 91);
        c.due("9 rows 0 and 1", 2, x.ofSector(13, 2));
        c.due("9 in the column 3", -1, x.place(13, 3));
        c.due("9 and the row 1", -1, x.place(13, 7));
        c.due("9 not the first angle", 0, x.ofSector(12, 2));
        x.scratch(3, 3, 1, 359);
        c.due("9 rows 0 to 3 in the column 0", -1, x.place(19, 12));
        c.due("9 4 PLACES", 4, x.ofSector(19, 2));
        x.scratch(1, 1, 0, 359);
        c.due("9 ERASED once more", 4, x.ofSector(6, 2));
        c.due("9 GOOD with a column", 0, x.ofSector(6, 3));
        c.due("9 as ERASED", 4, x.ofSector(7, 2));
        x.scratch(1, 1, 2, 359);
        c.due("9 a second column", 8, x.ofSector(7, 2));
        c.due("9 LOST with two columns", 2, x.ofSector(7, 3));
        c.due("9 the other one is not", 0, x.ofSector(6, 3));
        Disc y = Disc.written(1, 14);
        y.scratch(1, 1, 200, 270);
        c.due("9 70 degrees are the row 0 alone", 1, y.ofSector(10, 2));
    }

    private static void scratchRefuses() {
        Disc x = Disc.written(1, 3);
        c.refuses(x, "9 from -1", Check.ARGUMENT, () -> x.scratch(-1, 1, 0, 0));
        c.refuses(x, "9 from 30", Check.ARGUMENT, () -> x.scratch(30, 30, 0, 0));
        c.refuses(x, "9 to ahead of from", Check.ARGUMENT, () -> x.scratch(2, 1, 0, 0));
        c.refuses(x, "9 to 30", Check.ARGUMENT, () -> x.scratch(0, 30, 0, 0));
        c.refuses(x, "9 angle -1", Check.ARGUMENT, () -> x.scratch(0, 29, -1, 0));
        c.refuses(x, "9 angle 360", Check.ARGUMENT, () -> x.scratch(0, 29, 360, 360));
        c.refuses(x, "9 end ahead of angle", Check.ARGUMENT, () -> x.scratch(0, 29, 60, 59));
        c.refuses(x, "9 end 360", Check.ARGUMENT, () -> x.scratch(0, 29, 0, 360));
        c.refuses(x, "9 most", Check.ARGUMENT, () -> x.scratch(0, Integer.MAX_VALUE, 0, Integer.MAX_VALUE));
        c.due("9 the widest", 3, x.scratch(0, 29, 0, 359));
        c.due("9 the narrowest", 0, x.scratch(29, 29, 359, 359));
    }

    private static void rotChanges() {
        Disc x = Disc.written(1, 14);
        int was = x.place(6, 10);
        c.due("10 by 2: from 6 to 18", 7, x.rot(0));
        c.due("10 the PLACE 42 modulo 16", was ^ 1, x.place(6, 10));
        c.due("10 MENDED yet", 0, x.ofSector(6, 3));
        c.due("10 nothing is ERASED", 0, x.ofSector(6, 2));
        c.due("10 WRONG ones, too", 7, x.rot(0));
        c.due("10 as it was", was, x.place(6, 10));
        c.due("10 by 3", 5, x.rot(1));
        c.due("10 by 4", 3, x.rot(2));
        c.due("10 by 5", 2, x.rot(3));
        c.due("10 by 6", 3, x.rot(4));
        int next = x.place(10, 4);
        c.due("10 by 6: r 14", 3, x.rot(14));
        c.due("10 10 stays", next, x.place(10, 4));
        int twelfth = x.place(12, 2);
        x.rot(14);
        c.due("10 84 and 14 modulo 16, by 15", twelfth ^ 15, x.place(12, 2));
        int last = x.place(18, 5);
        c.due("10 by 6: r 999", 3, x.rot(999));
        c.due("10 126 and 999 modulo 16, by 10", last ^ 10, x.place(18, 5));
        c.due("10 an empty one", 0, new Disc().rot(0));
    }

    private static void rotSparesErased() {
        Disc x = Disc.written(1, 1);
        x.scratch(1, 1, 0, 0);
        c.due("10 the PLACE 42 and 55 modulo 16 is ERASED", 0, x.rot(55));
        c.due("10 it stays ERASED", -1, x.place(6, 1));
        c.due("10 and comes out as before", 0, x.nibbles(6, true));
        c.due("10 the PLACE 42 and 5 modulo 16 is not", 1, x.rot(5));
    }

    private static void rotRefuses() {
        Disc x = Disc.written(1, 3);
        c.refuses(x, "10 -1", Check.ARGUMENT, () -> x.rot(-1));
        c.refuses(x, "10 1000", Check.ARGUMENT, () -> x.rot(1000));
        c.refuses(x, "10 least", Check.ARGUMENT, () -> x.rot(Integer.MIN_VALUE));
    }

    private static void trayOpens() {
        Disc x = new Disc();
        c.due("11 shut at first", false, x.tray(false));
        c.due("11 shut", false, x.tray(true));
        c.due("11 open", true, x.tray(true));
        c.due("11 it is open", 1, x.many(12));
        c.due("11 open yet", true, x.tray(false));
        c.due("11 it is shut", 0, x.many(12));
        c.due("11 shut again", false, x.tray(false));
    }

    private static void pushIsRefused() {
        Disc x = new Disc();
        c.due("12 first", 1, x.push());
        c.due("12 the TRAY stays shut", false, x.tray(true));
        c.due("12 second", 2, x.push());
        c.due("12 the TRAY stays open", 1, x.many(12));
        c.due("12 told", 2, x.many(11));
    }
}
