import java.util.ArrayList;
import java.util.List;

/**
 * The document once more, written for the tests in the slowest and plainest way: nothing is kept that can be
 * reckoned, each MENDING and each marking is done anew, with texts of bits and lists.
 */
final class Model {
    private static final int N = 240;

    private final int[][] block = new int[N][];
    private final boolean[][] erased = new boolean[N][16];
    private final int[] sum = new int[N];
    private final int[] owner = new int[N];
    private final boolean[] isLeft = new boolean[N];
    private final List<int[]> tracks = new ArrayList<>();
    private final List<int[]> tellings = new ArrayList<>();
    private int sessions = 0;
    private boolean open = false;
    private int next = 0;
    private int calibrations = 4;
    private int head = 0;
    private double clock = 0.0;
    private int reads = 0;
    private int refused = 0;
    private boolean trayOpen = false;

    Model() {
        java.util.Arrays.fill(owner, -1);
    }

    int session() {
        need(!open && sessions < 3 && calibrations > 0 && next + 4 <= N);
        open = true;
        calibrations--;
        next += 4;
        return sessions++;
    }

    /** A TRACK is {SESSION, mode, first, isClosed}; who has a SECTOR stands at the SECTOR. */
    int track(int mode, int sectors) {
        allow(mode == 0 || mode == 1);
        allow(sectors >= 1 && sectors <= 40);
        need(open && tracks.size() < 8 && next + 2 + sectors <= N);
        int first = next + 2;
        for (int s = first; s < first + sectors; s++) {
            owner[s] = tracks.size();
        }
        tracks.add(new int[] {sessions - 1, mode, first, 0});
        next = first + sectors;
        return first;
    }

    private int nextOf(int track) {
        for (int s = 0; s < N; s++) {
            if (owner[s] == track && block[s] == null && !isLeft[s]) {
                return s;
            }
        }
        return -1;
    }

    int write(int track, long nibbles) {
        find(track >= 0 && track < tracks.size());
        allow(nibbles >= 0 && nibbles < 1L << 36);
        int s = nextOf(track);
        need(tracks.get(track)[3] == 0 && s >= 0);
        int[] b = new int[16];
        for (int k = 0; k < 9; k++) {
            int nibble = (int) (nibbles >> 4 * k & 15);
            b[k / 3 * 4 + k % 3] = nibble ^ mask(s, k);
            sum[s] += (k + 1) * nibble;
        }
        sum[s] %= 251;
        for (int r = 0; r < 3; r++) {
            b[4 * r + 3] = b[4 * r] ^ b[4 * r + 1] ^ b[4 * r + 2];
        }
        for (int col = 0; col < 4; col++) {
            b[12 + col] = b[col] ^ b[4 + col] ^ b[8 + col];
        }
        block[s] = b;
        return s;
    }

    private static int mask(int sector, int k) {
        return k == 0 ? (7 * sector + 3) % 16 : (5 * mask(sector, k - 1) + 3) % 16;
    }

    int starve(int track) {
        find(track >= 0 && track < tracks.size());
        int s = nextOf(track);
        need(tracks.get(track)[3] == 0 && s >= 0 && calibrations > 0);
        calibrations--;
        isLeft[s] = true;
        return s;
    }

    int close(int track) {
        find(track >= 0 && track < tracks.size());
        need(tracks.get(track)[3] == 0);
        tracks.get(track)[3] = 1;
        int given = 0;
        if (track == tracks.size() - 1) {
            for (int s = nextOf(track); s >= 0; s = nextOf(track)) {
                owner[s] = -1;
                given++;
            }
            next -= given;
        }
        return given;
    }

    int end() {
        need(open && next + 2 <= N);
        for (int[] t : tracks) {
            need(t[3] == 1);
        }
        open = false;
        next += 2;
        return next;
    }

    /** A telling is {FILE, SESSION, first, length}. */
    int file(int file, int first, int length) {
        find(file >= 0 && file <= 9);
        allow(first >= 0 && first < N && length >= 1 && length <= 20 && first + length <= N);
        int t = owner[first];
        allow(t >= 0 && tracks.get(t)[1] == 1);
        for (int s = first; s < first + length; s++) {
            allow(owner[s] == t);
        }
        need(open);
        tellings.add(new int[] {file, sessions - 1, first, length});
        return t;
    }

    int scratch(int from, int to, int angle, int end) {
        allow(from >= 0 && from <= 29 && to >= from && to <= 29);
        allow(angle >= 0 && angle <= 359 && end >= angle && end <= 359);
        int met = 0;
        for (int s = 0; s < N; s++) {
            boolean isIn = turn(s) >= from && turn(s) <= to && angle(s) >= angle && angle(s) <= end;
            if (isIn && block[s] != null) {
                met++;
                for (int row = 0; row <= (end - angle) / 90; row++) {
                    erased[s][4 * row + (turn(s) + angle) % 4] = true;
                }
            }
        }
        return met;
    }

    int rot(int r) {
        allow(r >= 0 && r <= 999);
        int changed = 0;
        for (int s = 0; s < N; s++) {
            int p = (s * 7 + r) % 16;
            if (block[s] != null && s % (r % 5 + 2) == 0 && !erased[s][p]) {
                block[s][p] ^= r % 15 + 1;
                changed++;
            }
        }
        return changed;
    }

    boolean tray(boolean isOpen) {
        boolean was = trayOpen;
        trayOpen = isOpen;
        return was;
    }

    int push() {
        return ++refused;
    }

    int read(int s) {
        find(s >= 0 && s < N);
        need(!trayOpen);
        pass(s);
        reads++;
        return state(s, 0);
    }

    private void pass(int s) {
        clock += seek(s);
        clock += 0.5 / new double[] {1f, 1.25f, 1.5f}[Math.min(turn(s) / 10, 2)];
        head = s == N - 1 ? s : s + 1;
    }

    double seek(int s) {
        find(s >= 0 && s < N);
        if (s == head) {
            return 0.0;
        }
        double took = 2.0 + 0.25 * Math.abs(turn(s) - turn(head));
        double wait = (angle(s) - angle(head) - 90.0 * took) % 360.0;
        return took + (wait < 0 ? wait + 360.0 : wait) / 90.0;
    }

    double clock() {
        return clock;
    }

    /** {turn, place in it, how many that has}, told one SECTOR behind the other. */
    private static int[] lie(int sector) {
        int turn = 0;
        int place = 0;
        for (int s = 0; s < sector; s++) {
            place++;
            if (place == inTurn(turn)) {
                turn++;
                place = 0;
            }
        }
        return new int[] {turn, place, inTurn(turn)};
    }

    private static int inTurn(int turn) {
        return turn < 10 ? 6 : turn < 20 ? 8 : 10;
    }

    private static int turn(int s) {
        return lie(s)[0];
    }

    double angle(int s) {
        find(s >= 0 && s < N);
        return lie(s)[1] * 360.0 / lie(s)[2];
    }

    /** A copy of the BLOCK with -1 for each ERASED PLACE, MENDED. */
    private int[] mended(int s, int set) {
        int[] b = block[s].clone();
        for (int p = 0; p < 16; p++) {
            if (erased[s][p] || (set >> p) % 2 == 1) {
                b[p] = -1;
            }
        }
        int[] before;
        do {
            before = b.clone();
            for (int line = 0; line < 8; line++) {
                fill(b, line);
            }
        } while (!java.util.Arrays.equals(before, b));
        for (int p = 0; p < 16; p++) {
            if (b[p] < 0) {
                return b;
            }
        }
        List<Integer> rows = new ArrayList<>();
        List<Integer> columns = new ArrayList<>();
        for (int line = 0; line < 8; line++) {
            if (parity(b, line) != 0) {
                (line < 4 ? rows : columns).add(line % 4);
            }
        }
        if (rows.size() == 1 && columns.size() == 1) {
            b[4 * rows.get(0) + columns.get(0)] ^= parity(b, rows.get(0));
        }
        return b;
    }

    private static int at(int line, int k) {
        return line < 4 ? 4 * line + k : 4 * k + line % 4;
    }

    private static void fill(int[] b, int line) {
        int gap = -1;
        int value = 0;
        for (int k = 0; k < 4; k++) {
            if (b[at(line, k)] >= 0) {
                value ^= b[at(line, k)];
            } else if (gap >= 0) {
                return;
            } else {
                gap = at(line, k);
            }
        }
        if (gap >= 0) {
            b[gap] = value;
        }
    }

    private static int parity(int[] b, int line) {
        return b[at(line, 0)] ^ b[at(line, 1)] ^ b[at(line, 2)] ^ b[at(line, 3)];
    }

    private int state(int s, int set) {
        if (block[s] == null) {
            return 2;
        }
        int[] b = mended(s, set);
        boolean isEven = true;
        for (int p = 0; p < 16; p++) {
            if (b[p] < 0) {
                return 2;
            }
        }
        for (int line = 0; line < 8; line++) {
            isEven = isEven && parity(b, line) == 0;
        }
        int total = 0;
        for (int k = 0; k < 9; k++) {
            total += (k + 1) * nibble(s, b, k);
        }
        boolean isData = tracks.get(owner[s])[1] == 1;
        return isEven && (!isData || total % 251 == sum[s]) ? 0 : 1;
    }

    private static int nibble(int s, int[] b, int k) {
        return Math.max(b[k / 3 * 4 + k % 3], 0) ^ mask(s, k);
    }

    /** {TURNS, DSV, farthest DSV}. */
    private int[] marks(int s) {
        List<String> words = new ArrayList<>();
        for (int w = 32; w <= 127 && words.size() < 16; w++) {
            String bits = Integer.toBinaryString(w + 128).substring(1);
            if (!bits.contains("11")) {
                words.add(bits);
            }
        }
        String all = "";
        for (int p = 0; p < 16; p++) {
            String word = words.get(erased[s][p] ? 0 : block[s][p]);
            boolean isFree = !all.endsWith("1") && word.startsWith("0");
            int without = Math.abs(walk(all + "0" + word)[1]);
            int with = Math.abs(walk(all + "1" + word)[1]);
            all += (isFree && with < without ? "1" : "0") + word;
        }
        return walk(all);
    }

    private static int[] walk(String bits) {
        int[] m = new int[3];
        int level = 1;
        for (char bit : bits.toCharArray()) {
            if (bit == '1') {
                level *= -1;
                m[0]++;
            }
            m[1] += level;
            m[2] = Math.max(m[2], Math.abs(m[1]));
        }
        return m;
    }

    int ofSector(int s, int what) {
        find(s >= 0 && s < N);
        allow(what >= 0 && what <= 8);
        boolean isBlank = block[s] == null;
        int gone = 0;
        for (boolean e : erased[s]) {
            gone += e ? 1 : 0;
        }
        int position = 1000 * (s / 60 % 3) + 10 * (s / 5 % 12) + s % 5;
        if (what >= 4 && what <= 6) {
            return isBlank ? 0 : marks(s)[what - 4];
        }
        return new int[] {owner[s], isBlank ? 0 : 1, gone, state(s, 0), 0, 0, 0, turn(s), position}[what];
    }

    long nibbles(int s, boolean isMended) {
        find(s >= 0 && s < N);
        if (block[s] == null || isMended && state(s, 0) == 2) {
            return -1;
        }
        int[] b = isMended ? mended(s, 0) : block[s].clone();
        long all = 0;
        for (int k = 8; k >= 0; k--) {
            int p = k / 3 * 4 + k % 3;
            all = all * 16 + (!isMended && erased[s][p] ? mask(s, k) : nibble(s, b, k));
        }
        return all;
    }

    int place(int s, int p) {
        find(s >= 0 && s < N && p >= 0 && p < 16);
        return block[s] == null || erased[s][p] ? -1 : block[s][p];
    }

    int ofTrack(int track, int what) {
        find(track >= 0 && track < tracks.size());
        allow(what >= 0 && what <= 7);
        int[] t = tracks.get(track);
        int[] counts = new int[4];
        for (int s = 0; s < N; s++) {
            if (owner[s] == track) {
                counts[0]++;
                counts[1] += block[s] != null ? 1 : 0;
                counts[2] += isLeft[s] ? 1 : 0;
                counts[3] += state(s, 0) == 0 ? 1 : 0;
            }
        }
        return new int[] {t[0], t[1], t[2], counts[0], counts[1], counts[2], t[3], counts[3]}[what];
    }

    int ofFile(int file, int session, int what) {
        find(file >= 0 && file <= 9 && session >= 0 && session < sessions);
        allow(what >= 0 && what <= 2);
        int[] seen = null;
        for (int[] t : tellings) {
            if (t[0] == file && t[1] <= session) {
                seen = t;
            }
        }
        if (seen == null) {
            return -1;
        }
        int good = 0;
        for (int s = seen[2]; s < seen[2] + seen[3]; s++) {
            good += state(s, 0) == 0 ? 1 : 0;
        }
        return new int[] {seen[2], seen[3], good}[what];
    }

    double play(int s) {
        find(s >= 0 && s < N);
        allow(owner[s] >= 0 && tracks.get(owner[s])[1] == 0);
        if (state(s, 0) == 0) {
            return sample(s);
        }
        float total = 0f;
        int count = 0;
        for (int n = s - 1; n <= s + 1; n += 2) {
            if (owner[n] == owner[s] && state(n, 0) == 0) {
                total += sample(n);
                count++;
            }
        }
        return total * (count == 2 ? 0.5f : 0.75f);
    }

    private float sample(int s) {
        int total = 0;
        for (int k = 0; k < 9; k++) {
            total += nibble(s, mended(s, 0), k);
        }
        return (total - 67) / 2f;
    }

    int many(int what) {
        allow(what >= 0 && what <= 12);
        int[] states = new int[3];
        for (int s = 0; s < N; s++) {
            if (block[s] != null) {
                states[state(s, 0)]++;
            }
        }
        int written = states[0] + states[1] + states[2];
        return new int[] {sessions, tracks.size(), next, calibrations, written, states[0], states[1], states[2],
            head, reads, open ? 1 : 0, refused, trayOpen ? 1 : 0}[what];
    }

    double wouldTake(int first, int sectors) {
        find(first >= 0 && first < N);
        allow(sectors >= 1 && sectors <= 40);
        double clockWas = clock;
        int headWas = head;
        for (int s = first; s < first + sectors && s < N; s++) {
            pass(s);
        }
        double took = clock - clockWas;
        clock = clockWas;
        head = headWas;
        return took;
    }

    int wouldMend(int s, int set) {
        find(s >= 0 && s < N);
        allow(set >= 0 && set <= 65535);
        return state(s, set);
    }

    long digest() {
        long d = 9600;
        for (int what = 0; what <= 12; what++) {
            d = d * 31 + many(what);
        }
        for (int t = 0; t < tracks.size(); t++) {
            for (int what = 0; what <= 7; what++) {
                d = d * 31 + ofTrack(t, what);
            }
        }
        for (int s = 0; s < N; s++) {
            if (block[s] != null) {
                for (int what = 2; what <= 6; what++) {
                    d = d * 31 + ofSector(s, what);
                }
                d = d * 31 + nibbles(s, true);
            }
        }
        for (int f = 0; f < 10; f++) {
            for (int s = 0; s < sessions; s++) {
                for (int what = 0; what <= 2; what++) {
                    d = d * 31 + ofFile(f, s, what);
                }
            }
        }
        return d * 31 + (long) clock;
    }

    private static void find(boolean isThere) {
        if (!isThere) {
            throw new IndexOutOfBoundsException();
        }
    }

    private static void allow(boolean isAllowed) {
        if (!isAllowed) {
            throw new IllegalArgumentException();
        }
    }

    private static void need(boolean isSo) {
        if (!isSo) {
            throw new IllegalStateException();
        }
    }
}
