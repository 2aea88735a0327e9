import java.util.Map;
import java.util.TreeMap;

/** Many runs of 512 calls at most, drawn by a fixed rule, answered by PitHouse and by the Model alike. */
public final class ModelTest {
    private static final int RUNS = 120;
    private static final int CALLS_AT_END = 4;
    private static final int CALLS = Disc.MOST_CALLS - CALLS_AT_END;
    private static final String[] NAMES = {
        "session", "track", "write", "starve", "close", "end", "file", "scratch", "rot", "tray", "push", "read",
        "seek", "clock", "angle", "ofSector", "nibbles", "place", "ofTrack", "ofFile", "play", "many", "wouldTake",
        "wouldMend", "digest"
    };
    private static final int[] WEIGHTS = {
        3, 5, 60, 2, 4, 3, 8, 6, 5, 2, 1, 8,
        4, 2, 2, 14, 8, 6, 6, 8, 10, 6, 4,
        10, 1
    };

    private final Check c;
    private final Map<String, Integer> met;
    private final Disc x = new Disc();
    private final Model m = new Model();
    private final boolean isTidy;
    private long seed;

    private ModelTest(Check c, Map<String, Integer> met, int run) {
        this.c = c;
        this.met = met;
        seed = 7919L * run + 17;
        isTidy = run % 4 != 0;
    }

    public static void main(String[] args) {
        Check c = new Check("ModelTest");
        Map<String, Integer> met = new TreeMap<>();
        for (int run = 0; run < RUNS; run++) {
            new ModelTest(c, met, run).go(run);
        }
        for (String name : NAMES) {
            c.due(name + " was answered", true, met.getOrDefault(name, 0) > 50);
        }
        for (String kind : new String[] {
            "session S", "track A", "track S", "write I", "write A", "write S", "starve I", "starve S", "close I",
            "close S", "end S", "file I", "file A", "file S", "scratch A", "rot A", "read I", "read S", "seek I",
            "angle I", "ofSector I", "ofSector A", "nibbles I", "place I", "ofTrack I", "ofTrack A", "ofFile I",
            "ofFile A", "play I", "play A", "many A", "wouldTake I", "wouldTake A", "wouldMend I", "wouldMend A",
            "good", "bad", "lost"}) {
            c.due(kind + " was met", true, met.getOrDefault(kind, 0) > 5);
        }
        c.finish();
    }

    private void go(int run) {
        for (int call = 0; call < CALLS; call++) {
            ask("run " + run + ", call " + call + ": ", drawName());
        }
        c.due("run " + run + ": digest", m.digest(), x.digest());
        meet("good", x.many(5));
        meet("bad", x.many(6));
        meet("lost", x.many(7));
    }

    private int draw(int bound) {
        seed = seed * 6364136223846793005L + 1442695040888963407L;
        return (int) Math.floorMod(seed >> 33, (long) bound);
    }

    /** Mostly what is allowed, at times just beyond it. */
    private int near(int bound) {
        return draw(30) == 0 ? (draw(2) == 0 ? -1 - draw(3) : bound + draw(3)) : draw(bound);
    }

    private int sector() {
        int next = m.many(2);
        return draw(4) == 0 || next == 0 ? near(240) : near(Math.min(next + 2, 240));
    }

    private int openTrack() {
        int count = m.many(1);
        return draw(3) == 0 ? near(Math.max(count, 1)) : Math.max(count - 1 - draw(2), 0);
    }

    private String drawName() {
        int total = 0;
        for (int weight : WEIGHTS) {
            total += weight;
        }
        int left = draw(total);
        int at = 0;
        while (left >= WEIGHTS[at]) {
            left -= WEIGHTS[at];
            at++;
        }
        return NAMES[at];
    }

    private void meet(String kind, int times) {
        met.merge(kind, times, Integer::sum);
    }

    private void both(String call, String name, Check.Call want, Check.Call got) {
        String due = Check.outcome(want);
        c.due(call, due, Check.outcome(got));
        boolean isThrown = due.startsWith("throws.I");
        String kind = due.contains("Index") ? " I" : due.contains("Argument") ? " A" : " S";
        meet(isThrown ? name + kind : name, 1);
    }

    private void ask(String where, String name) {
        int a = sector();
        int b = draw(8) == 0 ? near(41) : near(12);
        int t = openTrack();
        switch (name) {
            case "session" -> both(where + name, name, m::session, x::session);
            case "track" -> {
                int sectors = isTidy ? 1 + near(draw(3) == 0 ? 40 : 14) : near(44);
                int mode = near(2);
                both(where + name, name, () -> m.track(mode, sectors), () -> x.track(mode, sectors));
            }
            case "write" -> {
                long one = ((long) draw(1 << 18) << 18) + draw(1 << 18);
                long nibbles = draw(40) == 0 ? -one : draw(40) == 0 ? one << 2 : one >> draw(3) * 12;
                both(where + name, name, () -> m.write(t, nibbles), () -> x.write(t, nibbles));
            }
            case "starve" -> both(where + name, name, () -> m.starve(t), () -> x.starve(t));
            case "close" -> both(where + name, name, () -> m.close(t), () -> x.close(t));
            case "end" -> both(where + name, name, m::end, x::end);
            case "file" -> {
                int f = near(10);
                int length = draw(3) == 0 ? near(23) : 1 + draw(4);
                both(where + name, name, () -> m.file(f, a, length), () -> x.file(f, a, length));
            }
            case "scratch" -> scratch(where);
            case "rot" -> {
                int r = near(1000);
                both(where + name, name, () -> m.rot(r), () -> x.rot(r));
            }
            default -> askDrive(where, name, a, b, t);
        }
    }

    private void scratch(String where) {
        int from = near(draw(2) == 0 ? 30 : 12);
        int to = from + near(draw(3) == 0 ? 10 : 3);
        int angle = near(360);
        int end = angle + near(360 - Math.max(0, Math.min(angle, 359)));
        both(where + "scratch", "scratch",
            () -> m.scratch(from, to, angle, end), () -> x.scratch(from, to, angle, end));
    }

    private void askDrive(String where, String name, int a, int b, int t) {
        switch (name) {
            case "tray" -> {
                boolean isOpen = draw(3) == 0;
                both(where + name, name, () -> m.tray(isOpen), () -> x.tray(isOpen));
            }
            case "push" -> both(where + name, name, m::push, x::push);
            case "read" -> both(where + name, name, () -> m.read(a), () -> x.read(a));
            case "seek" -> both(where + name, name, () -> m.seek(a), () -> x.seek(a));
            case "clock" -> both(where + name, name, m::clock, x::clock);
            case "angle" -> both(where + name, name, () -> m.angle(a), () -> x.angle(a));
            case "wouldTake" -> both(where + name, name, () -> m.wouldTake(a, b), () -> x.wouldTake(a, b));
            case "wouldMend" -> {
                int set = draw(25) == 0 ? 65536 : draw(25) == 0 ? -1 : draw(65536) & draw(65536) & draw(65536);
                both(where + name, name, () -> m.wouldMend(a, set), () -> x.wouldMend(a, set));
            }
            case "digest" -> both(where + name, name, m::digest, x::digest);
            default -> askHeld(where, name, a, t);
        }
    }

    private void askHeld(String where, String name, int a, int t) {
        switch (name) {
            case "ofSector" -> {
                int what = near(9);
                both(where + name, name, () -> m.ofSector(a, what), () -> x.ofSector(a, what));
            }
            case "nibbles" -> {
                boolean isMended = draw(2) == 0;
                both(where + name, name, () -> m.nibbles(a, isMended), () -> x.nibbles(a, isMended));
            }
            case "place" -> {
                int place = near(16);
                both(where + name, name, () -> m.place(a, place), () -> x.place(a, place));
            }
            case "ofTrack" -> {
                int what = near(8);
                both(where + name, name, () -> m.ofTrack(t, what), () -> x.ofTrack(t, what));
            }
            case "ofFile" -> {
                int f = near(10);
                int session = near(Math.max(m.many(0), 1));
                int what = near(3);
                both(where + name, name, () -> m.ofFile(f, session, what), () -> x.ofFile(f, session, what));
            }
            case "play" -> both(where + name, name, () -> m.play(a), () -> x.play(a));
            case "many" -> {
                int what = near(13);
                both(where + name, name, () -> m.many(what), () -> x.many(what));
            }
            default -> c.due("a call that is known", "", name);
        }
    }
}
