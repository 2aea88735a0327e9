import java.math.BigInteger;
import java.util.ArrayList;
import java.util.List;
import java.util.function.Function;

/**
 * A PitHouse whose calls are kept and counted. The document promises nothing of a 513th call, so a test that makes
 * one is wrong itself; and questions that would be too many are asked of twins, on which the same calls were made.
 */
final class Disc {
    static final int MOST_CALLS = 512;
    private static final List<Function<PitHouse, Object>> QUESTIONS = questions();

    private final PitHouse asked = new PitHouse();
    private final List<Function<PitHouse, ?>> calls = new ArrayList<>();

    private static List<Function<PitHouse, Object>> questions() {
        List<Function<PitHouse, Object>> all = new ArrayList<>();
        all.add(PitHouse::digest);
        all.add(PitHouse::clock);
        for (int sector = 0; sector < 240; sector++) {
            int s = sector;
            for (int of = 0; of <= 8; of++) {
                int what = of;
                all.add(x -> x.ofSector(s, what));
            }
            for (int at = 0; at <= 15; at++) {
                int place = at;
                all.add(x -> x.place(s, place));
            }
            all.add(x -> x.nibbles(s, false));
            all.add(x -> x.nibbles(s, true));
            all.add(x -> x.seek(s));
            all.add(x -> Check.outcome(() -> x.play(s)));
        }
        return all;
    }

    /** A SESSION is open, with one TRACK in it, from the SECTOR 6 on. */
    static Disc opened(int mode, int sectors) {
        Disc x = new Disc();
        x.session();
        x.track(mode, sectors);
        return x;
    }

    /** All SECTORS of its one TRACK are WRITTEN. */
    static Disc written(int mode, int sectors) {
        Disc x = opened(mode, sectors);
        for (int k = 0; k < sectors; k++) {
            x.write(0, 1000003L * k);
        }
        return x;
    }

    /** NEXT is 217 to 240, the SESSION is open yet, and all its 6 TRACKS are CLOSED. */
    static Disc filledTo(int next) {
        Disc x = new Disc();
        x.session();
        for (int t = 0; t < 5; t++) {
            x.track(0, 40);
        }
        x.track(1, next - 216);
        for (int t = 0; t < 5; t++) {
            x.close(t);
        }
        for (int s = 216; s < next; s++) {
            x.write(5, 0);
        }
        x.close(5);
        return x;
    }

    /** Answers to all that can be asked (the digest stands for what is asked of the DISC, TRACKS and FILES). */
    String snapshot() {
        StringBuilder all = new StringBuilder();
        int asks = MOST_CALLS - calls.size();
        if (asks < 1) {
            throw new AssertionError("no call is left to ask a twin with");
        }
        PitHouse twin = null;
        for (int q = 0; q < QUESTIONS.size(); q++) {
            if (q % asks == 0) {
                twin = twin();
            }
            all.append(QUESTIONS.get(q).apply(twin)).append(' ');
        }
        return all.toString();
    }

    private PitHouse twin() {
        PitHouse twin = new PitHouse();
        for (Function<PitHouse, ?> call : calls) {
            Check.outcome(() -> call.apply(twin));
        }
        return twin;
    }

    /** The digest by its sentence, in numbers that never wrap around, cut to 64 bits at the end. */
    long reckonedDigest() {
        BigInteger d = BigInteger.valueOf(9600);
        for (int what = 0; what <= 12; what++) {
            d = with(d, many(what));
        }
        int tracks = many(1);
        for (int t = 0; t < tracks; t++) {
            for (int what = 0; what <= 7; what++) {
                d = with(d, ofTrack(t, what));
            }
        }
        int next = many(2);
        for (int s = 0; s < next; s++) {
            if (ofSector(s, 1) == 1) {
                for (int what = 2; what <= 6; what++) {
                    d = with(d, ofSector(s, what));
                }
                d = with(d, nibbles(s, true));
            }
        }
        int sessions = many(0);
        for (int f = 0; f < 10; f++) {
            for (int s = 0; s < sessions; s++) {
                for (int what = 0; what <= 2; what++) {
                    d = with(d, ofFile(f, s, what));
                }
            }
        }
        return with(d, (long) clock()).longValue();
    }

    private static BigInteger with(BigInteger d, long v) {
        return d.multiply(BigInteger.valueOf(31)).add(BigInteger.valueOf(v));
    }

    private <T> T ask(Function<PitHouse, T> call) {
        if (calls.size() >= MOST_CALLS) {
            throw new AssertionError("a call too many: nothing is promised of it");
        }
        calls.add(call);
        return call.apply(asked);
    }

    int session() {
        return ask(PitHouse::session);
    }

    int track(int mode, int sectors) {
        return ask(x -> x.track(mode, sectors));
    }

    int write(int track, long nibbles) {
        return ask(x -> x.write(track, nibbles));
    }

    int starve(int track) {
        return ask(x -> x.starve(track));
    }

    int close(int track) {
        return ask(x -> x.close(track));
    }

    int end() {
        return ask(PitHouse::end);
    }

    int file(int file, int first, int length) {
        return ask(x -> x.file(file, first, length));
    }

    int scratch(int from, int to, int angle, int end) {
        return ask(x -> x.scratch(from, to, angle, end));
    }

    int rot(int r) {
        return ask(x -> x.rot(r));
    }

    boolean tray(boolean isOpen) {
        return ask(x -> x.tray(isOpen));
    }

    int push() {
        return ask(PitHouse::push);
    }

    int read(int sector) {
        return ask(x -> x.read(sector));
    }

    double seek(int sector) {
        return ask(x -> x.seek(sector));
    }

    double clock() {
        return ask(PitHouse::clock);
    }

    double angle(int sector) {
        return ask(x -> x.angle(sector));
    }

    int ofSector(int sector, int what) {
        return ask(x -> x.ofSector(sector, what));
    }

    long nibbles(int sector, boolean isMended) {
        return ask(x -> x.nibbles(sector, isMended));
    }

    int place(int sector, int place) {
        return ask(x -> x.place(sector, place));
    }

    int ofTrack(int track, int what) {
        return ask(x -> x.ofTrack(track, what));
    }

    int ofFile(int file, int session, int what) {
        return ask(x -> x.ofFile(file, session, what));
    }

    double play(int sector) {
        return ask(x -> x.play(sector));
    }

    int many(int what) {
        return ask(x -> x.many(what));
    }

    double wouldTake(int first, int sectors) {
        return ask(x -> x.wouldTake(first, sectors));
    }

    int wouldMend(int sector, int set) {
        return ask(x -> x.wouldMend(sector, set));
    }

    long digest() {
        return ask(PitHouse::digest);
    }
}
