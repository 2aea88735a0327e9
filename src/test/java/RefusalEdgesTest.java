import java.util.ArrayList;
import java.util.List;

/**
 * For each promise that refuses: calls that it refuses are made on a lively DISC, and after them all is as before,
 * and goes on as it does on a DISC where none of them was made.
 */
public final class RefusalEdgesTest {
    private static final int LEAST = Integer.MIN_VALUE;
    private static final int MOST = Integer.MAX_VALUE;
    private static final Edges e = new Edges("RefusalEdgesTest");
    private static final Check c = e.check;

    public static void main(String[] args) {
        refused(2, x -> List.of(x::session));
        refused(3, x -> List.of(() -> x.track(2, 1), () -> x.track(1, 41), () -> x.track(0, 0), () -> x.track(1, LEAST),
            () -> x.track(1, MOST)));
        refused(4, x -> List.of(() -> x.write(4, 1), () -> x.write(-1, 1), () -> x.write(3, -1),
            () -> x.write(3, 1L << 36), () -> x.write(0, 1), () -> x.write(2, 1)));
        refused(5, x -> List.of(() -> x.starve(4), () -> x.starve(-1), () -> x.starve(0), () -> x.starve(2),
            () -> x.starve(3)));
        refused(6, x -> List.of(() -> x.close(4), () -> x.close(-1), () -> x.close(0), () -> x.close(1)));
        refused(7, x -> List.of(x::end));
        refused(8, x -> List.of(() -> x.file(10, 6, 1), () -> x.file(-1, 6, 1), () -> x.file(1, 240, 1),
            () -> x.file(1, 6, 0), () -> x.file(1, 6, 21), () -> x.file(1, 6, 20), () -> x.file(1, 0, 1)));
        refused(9, x -> List.of(() -> x.scratch(-1, 29, 0, 359), () -> x.scratch(0, 30, 0, 359),
            () -> x.scratch(2, 1, 0, 359), () -> x.scratch(0, 29, -1, 359), () -> x.scratch(0, 29, 0, 360),
            () -> x.scratch(0, 29, 60, 59)));
        refused(10, x -> List.of(() -> x.rot(-1), () -> x.rot(1000), () -> x.rot(LEAST), () -> x.rot(MOST)));
        refused(13, x -> List.of(() -> x.read(6), () -> x.read(0), () -> x.read(240), () -> x.read(-1)));
        refused(14, x -> List.of(() -> x.seek(-1), () -> x.seek(240)));
        refused(16, x -> List.of(() -> x.angle(-1), () -> x.angle(240)));
        refused(17, x -> List.of(() -> x.ofSector(-1, 0), () -> x.ofSector(240, 0), () -> x.ofSector(6, 9)));
        refused(18, x -> List.of(() -> x.nibbles(-1, true), () -> x.nibbles(240, true)));
        refused(19, x -> List.of(() -> x.place(-1, 0), () -> x.place(240, 0), () -> x.place(6, 16)));
        refused(20, x -> List.of(() -> x.ofTrack(-1, 0), () -> x.ofTrack(4, 0), () -> x.ofTrack(0, 8)));
        refused(21, x -> List.of(() -> x.ofFile(10, 0, 0), () -> x.ofFile(0, 2, 0), () -> x.ofFile(0, 0, 3)));
        refused(22, x -> List.of(() -> x.play(-1), () -> x.play(240), () -> x.play(6), () -> x.play(0)));
        refused(23, x -> List.of(() -> x.many(-1), () -> x.many(13)));
        refused(24, x -> List.of(() -> x.wouldTake(240, 1), () -> x.wouldTake(0, 0), () -> x.wouldTake(0, 41)));
        refused(25, x -> List.of(() -> x.wouldMend(240, 0), () -> x.wouldMend(6, -1), () -> x.wouldMend(6, 65536)));
        e.edge(8, Edges.NOTHING, RefusalEdgesTest::toldOfAClosedSession);
        e.edge(3, Edges.NOTHING, RefusalEdgesTest::openedInNone);
        e.finish();
    }

    private interface Calls {
        List<Check.Call> on(Disc x);
    }

    /** Four TRACKS in two SESSIONS, of which the second is open with two open TRACKS; no CALIBRATION; the TRAY open. */
    private static Disc lively() {
        Disc x = Disc.opened(1, 9);
        for (int k = 0; k < 6; k++) {
            x.write(0, 0x123456789L * k);
        }
        x.starve(0);
        x.file(0, 6, 5);
        x.close(0);
        x.end();
        x.session();
        x.track(0, 5);
        x.write(1, 77);
        x.starve(1);
        x.close(1);
        x.track(1, 1);
        x.write(2, 78);
        x.track(0, 4);
        x.write(3, 79);
        x.rot(0);
        x.rot(6);
        x.scratch(1, 1, 60, 200);
        x.read(8);
        x.push();
        x.tray(true);
        return x;
    }

    private static void refused(int promise, Calls calls) {
        e.edge(promise, Edges.NOTHING, () -> {
            Disc x = lively();
            Disc other = lively();
            String before = x.snapshot();
            int number = 0;
            for (Check.Call call : calls.on(x)) {
                c.due("the call " + number + " is refused", true, Check.outcome(call).startsWith("throws."));
                number++;
            }
            c.due("as before", before, x.snapshot());
            c.due("it goes on as it would have", goneOn(other), goneOn(x));
        });
    }

    private static String goneOn(Disc x) {
        List<Check.Call> calls = new ArrayList<>();
        calls.add(() -> x.tray(false));
        calls.add(() -> x.write(3, 5));
        calls.add(() -> x.read(9));
        calls.add(x::push);
        calls.add(() -> x.rot(3));
        calls.add(() -> x.scratch(0, 29, 3, 300));
        calls.add(() -> x.file(0, 6, 2));
        calls.add(() -> x.close(2));
        calls.add(() -> x.close(3));
        calls.add(() -> x.track(1, 3));
        calls.add(() -> x.write(4, 5));
        calls.add(() -> x.close(4));
        calls.add(x::end);
        StringBuilder all = new StringBuilder();
        for (Check.Call call : calls) {
            all.append(Check.outcome(call)).append(' ');
        }
        return all.append(x.snapshot()).toString();
    }

    private static void toldOfAClosedSession() {
        Disc x = Disc.written(1, 4);
        x.file(0, 6, 2);
        x.close(0);
        x.end();
        c.refuses(x, "no SESSION is open", Check.STATE, () -> x.file(0, 7, 1));
        c.due("as it was told", 6, x.ofFile(0, 0, 0));
        x.session();
        c.due("seen from the next one", 6, x.ofFile(0, 1, 0));
        c.due("and its length", 2, x.ofFile(0, 1, 1));
    }

    private static void openedInNone() {
        Disc x = new Disc();
        c.refuses(x, "no SESSION is open", Check.STATE, () -> x.track(1, 3));
        x.session();
        c.refuses(x, "no TRACK was opened", Check.INDEX, () -> x.write(0, 1));
        c.due("the first one", 6, x.track(1, 3));
        c.due("its number", 6, x.write(0, 1));
    }
}
