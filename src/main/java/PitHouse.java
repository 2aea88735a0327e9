/**
 * Discs that are written by light: bytes that are spread and summed, marks whose sums stay low,
 * sessions and tracks, and a head that has to find its groove.
 *
 * <p>The words in capitals are those of the document.
 */
public final class PitHouse {

    private static final int NONE = -1;

    private static final int SECTORS = 240;
    private static final int SPIRAL_TURNS = 30;
    private static final int LEAD = 4;
    private static final int GAP = 2;
    private static final int END = 2;

    private static final int MOST_SESSIONS = 3;
    private static final int MOST_TRACKS = 8;
    private static final int MOST_FILES = 10;
    private static final int MOST_CALIBRATIONS = 4;
    private static final int MOST_RESERVED = 40;
    private static final int MOST_IN_FILE = 20;
    private static final int MOST_TAKEN = 40;
    private static final long MOST_NIBBLES = 68719476735L;

    private static final int SOUND = 0;
    private static final int DATA = 1;

    private static final int GOOD = 0;
    private static final int BAD = 1;
    private static final int LOST = 2;

    private final Sector[] sectors = new Sector[SECTORS];
    private final Track[] tracks = new Track[MOST_TRACKS];
    private final FileTable files = new FileTable();
    private final Drive drive = new Drive();
    private final Bench bench = new Bench();
    private int sessionCount = 0;
    private int trackCount = 0;
    private int next = 0;
    private int calibrations = MOST_CALIBRATIONS;
    private boolean isSessionOpen = false;

    public PitHouse() {
        for (int s = 0; s < SECTORS; s++) {
            sectors[s] = new Sector(s);
        }
        for (int t = 0; t < MOST_TRACKS; t++) {
            tracks[t] = new Track();
        }
    }

    // ---- what is written

    public int session() throws IllegalStateException {
        if (isSessionOpen || sessionCount >= MOST_SESSIONS || calibrations <= 0 || left() < LEAD) {
            throw new IllegalStateException("no SESSION can be opened");
        }
        isSessionOpen = true;
        calibrations--;
        next += LEAD;
        sessionCount++;
        return sessionCount - 1;
    }

    public int track(int mode, int sectors) throws IllegalArgumentException, IllegalStateException {
        if ((mode != SOUND && mode != DATA) || sectors < 1 || sectors > MOST_RESERVED) {
            throw new IllegalArgumentException("no such mode, or not 1 to 40 SECTORS");
        }
        if (!isSessionOpen || trackCount >= MOST_TRACKS || left() < GAP + sectors) {
            throw new IllegalStateException("no TRACK can be opened");
        }
        Track opened = tracks[trackCount];
        opened.reserve(sessionCount - 1, mode, next + GAP, sectors);
        trackCount++;
        next = opened.behind();
        return opened.first;
    }

    public int write(int track, long nibbles)
            throws IndexOutOfBoundsException, IllegalArgumentException, IllegalStateException {
        Track written = trackAt(track);
        if (nibbles < 0 || nibbles > MOST_NIBBLES) {
            throw new IllegalArgumentException("not nine NIBBLES");
        }
        if (!written.hasRoom()) {
            throw new IllegalStateException("the TRACK is CLOSED or full");
        }
        int sector = written.takeNext();
        sectors[sector].fillWith(nibbles, written.mode == DATA, bench);
        return sector;
    }

    public int starve(int track) throws IndexOutOfBoundsException, IllegalStateException {
        Track starved = trackAt(track);
        if (!starved.hasRoom() || calibrations <= 0) {
            throw new IllegalStateException("the TRACK is CLOSED or full, or there is no CALIBRATION");
        }
        calibrations--;
        starved.links++;
        return starved.takeNext();
    }

    public int close(int track) throws IndexOutOfBoundsException, IllegalStateException {
        Track closed = trackAt(track);
        if (closed.isClosed) {
            throw new IllegalStateException("the TRACK is CLOSED");
        }
        closed.isClosed = true;
        if (track != trackCount - 1) {
            return 0;
        }
        int given = closed.giveBack();
        next = closed.behind();
        return given;
    }

    public int end() throws IllegalStateException {
        if (!isSessionOpen || hasOpenTrack() || left() < END) {
            throw new IllegalStateException("no SESSION can be CLOSED");
        }
        isSessionOpen = false;
        next += END;
        return next;
    }

    public int file(int file, int first, int length)
            throws IndexOutOfBoundsException, IllegalArgumentException, IllegalStateException {
        checkFile(file);
        if (!isSector(first) || length < 1 || length > MOST_IN_FILE) {
            throw new IllegalArgumentException("no such SECTOR, or not 1 to 20 SECTORS");
        }
        int track = trackOf(first);
        if (track == NONE || tracks[track].mode != DATA || !tracks[track].holds(first + length - 1)) {
            throw new IllegalArgumentException("the FILE is not in one DATA TRACK whole");
        }
        if (!isSessionOpen) {
            throw new IllegalStateException("no SESSION is open");
        }
        files.tell(file, sessionCount - 1, first, length);
        return track;
    }

    // ---- what happens to it

    public int scratch(int from, int to, int angle, int end) throws IllegalArgumentException {
        if (from < 0 || from >= SPIRAL_TURNS || to < from || to >= SPIRAL_TURNS) {
            throw new IllegalArgumentException("no such turns");
        }
        if (angle < 0 || angle > 359 || end < angle || end > 359) {
            throw new IllegalArgumentException("no such angles");
        }
        int met = 0;
        for (int s = 0; s < SECTORS; s++) {
            int turn = Spiral.turnOf(s);
            double at = Spiral.angleOf(s);
            if (sectors[s].isWritten && turn >= from && turn <= to && at >= angle && at <= end) {
                sectors[s].eraseColumn((turn + angle) % 4, (end - angle) / 90, bench);
                met++;
            }
        }
        return met;
    }

    public int rot(int r) throws IllegalArgumentException {
        if (r < 0 || r > 999) {
            throw new IllegalArgumentException("not 0 to 999");
        }
        int changed = 0;
        for (int s = 0; s < SECTORS; s++) {
            boolean isMet = sectors[s].isWritten && s % (r % 5 + 2) == 0;
            if (isMet && sectors[s].makeWrong((s * 7 + r) % 16, r % 15 + 1, bench)) {
                changed++;
            }
        }
        return changed;
    }

    public boolean tray(boolean isOpen) {
        boolean wasOpen = drive.isTrayOpen;
        drive.isTrayOpen = isOpen;
        return wasOpen;
    }

    public int push() {
        drive.refusals++;
        return drive.refusals;
    }

    // ---- the drive

    public int read(int sector) throws IndexOutOfBoundsException, IllegalStateException {
        checkSector(sector);
        if (drive.isTrayOpen) {
            throw new IllegalStateException("the TRAY is open");
        }
        drive.passOver(sector);
        return sectors[sector].state;
    }

    public double seek(int sector) throws IndexOutOfBoundsException {
        checkSector(sector);
        return Drive.seekTime(drive.head, sector);
    }

    public double clock() {
        return drive.clock;
    }

    public double angle(int sector) throws IndexOutOfBoundsException {
        checkSector(sector);
        return Spiral.angleOf(sector);
    }

    // ---- what is asked

    public int ofSector(int sector, int what) throws IndexOutOfBoundsException, IllegalArgumentException {
        checkSector(sector);
        Sector asked = sectors[sector];
        switch (what) {
            case 0: return trackOf(sector);
            case 1: return asked.isWritten ? 1 : 0;
            case 2: return Integer.bitCount(asked.block.erased);
            case 3: return asked.state;
            case 4: return asked.turns;
            case 5: return asked.dsv;
            case 6: return asked.farthest;
            case 7: return Spiral.turnOf(sector);
            case 8: return Spiral.positionOf(sector);
            default: throw new IllegalArgumentException("not 0 to 8");
        }
    }

    public long nibbles(int sector, boolean isMended) throws IndexOutOfBoundsException {
        checkSector(sector);
        return isMended ? sectors[sector].mended : sectors[sector].raw();
    }

    public int place(int sector, int place) throws IndexOutOfBoundsException {
        checkSector(sector);
        if (place < 0 || place >= Block.PLACES) {
            throw new IndexOutOfBoundsException("no such PLACE");
        }
        Sector asked = sectors[sector];
        return !asked.isWritten || asked.block.isErased(place) ? NONE : asked.block.valueAt(place);
    }

    public int ofTrack(int track, int what) throws IndexOutOfBoundsException, IllegalArgumentException {
        Track asked = trackAt(track);
        switch (what) {
            case 0: return asked.session;
            case 1: return asked.mode;
            case 2: return asked.first;
            case 3: return asked.has;
            case 4: return asked.used - asked.links;
            case 5: return asked.links;
            case 6: return asked.isClosed ? 1 : 0;
            case 7: return goodFrom(asked.first, asked.has);
            default: throw new IllegalArgumentException("not 0 to 7");
        }
    }

    public int ofFile(int file, int session, int what) throws IndexOutOfBoundsException, IllegalArgumentException {
        checkFile(file);
        if (session < 0 || session >= sessionCount) {
            throw new IndexOutOfBoundsException("no such SESSION");
        }
        if (what < 0 || what > 2) {
            throw new IllegalArgumentException("not 0 to 2");
        }
        int teller = files.tellerOf(file, session);
        if (teller == NONE) {
            return NONE;
        }
        int first = files.firstOf(file, teller);
        int length = files.lengthOf(file, teller);
        if (what == 2) {
            return goodFrom(first, length);
        }
        return what == 0 ? first : length;
    }

    public double play(int sector) throws IndexOutOfBoundsException, IllegalArgumentException {
        checkSector(sector);
        int track = trackOf(sector);
        if (track == NONE || tracks[track].mode != SOUND) {
            throw new IllegalArgumentException("not of a SOUND TRACK");
        }
        if (sectors[sector].state == GOOD) {
            return sectors[sector].sample();
        }
        return sampleBetween(tracks[track], sector - 1, sector + 1);
    }

    public int many(int what) throws IllegalArgumentException {
        switch (what) {
            case 0: return sessionCount;
            case 1: return trackCount;
            case 2: return next;
            case 3: return calibrations;
            case 4: return writtenOf(GOOD) + writtenOf(BAD) + writtenOf(LOST);
            case 5: return writtenOf(GOOD);
            case 6: return writtenOf(BAD);
            case 7: return writtenOf(LOST);
            case 8: return drive.head;
            case 9: return drive.reads;
            case 10: return isSessionOpen ? 1 : 0;
            case 11: return drive.refusals;
            case 12: return drive.isTrayOpen ? 1 : 0;
            default: throw new IllegalArgumentException("not 0 to 12");
        }
    }

    // ---- what would be

    public double wouldTake(int first, int sectors) throws IndexOutOfBoundsException, IllegalArgumentException {
        checkSector(first);
        if (sectors < 1 || sectors > MOST_TAKEN) {
            throw new IllegalArgumentException("not 1 to 40 SECTORS");
        }
        return drive.timeOver(first, Math.min(first + sectors, SECTORS));
    }

    public int wouldMend(int sector, int set) throws IndexOutOfBoundsException, IllegalArgumentException {
        checkSector(sector);
        if (set < 0 || set > Block.ALL_PLACES) {
            throw new IllegalArgumentException("no set of PLACES");
        }
        return sectors[sector].stateWithout(set, bench.copy);
    }

    public long digest() {
        long d = 9600;
        for (int what = 0; what <= 12; what++) {
            d = d * 31 + many(what);
        }
        d = digestTracks(d);
        d = digestSectors(d);
        d = digestFiles(d);
        return d * 31 + (long) drive.clock;
    }

    private long digestTracks(long start) {
        long d = start;
        for (int t = 0; t < trackCount; t++) {
            for (int what = 0; what <= 7; what++) {
                d = d * 31 + ofTrack(t, what);
            }
        }
        return d;
    }

    private long digestSectors(long start) {
        long d = start;
        for (int s = 0; s < SECTORS; s++) {
            if (sectors[s].isWritten) {
                for (int what = 2; what <= 6; what++) {
                    d = d * 31 + ofSector(s, what);
                }
                d = d * 31 + nibbles(s, true);
            }
        }
        return d;
    }

    private long digestFiles(long start) {
        long d = start;
        for (int f = 0; f < MOST_FILES; f++) {
            for (int s = 0; s < sessionCount; s++) {
                for (int what = 0; what <= 2; what++) {
                    d = d * 31 + ofFile(f, s, what);
                }
            }
        }
        return d;
    }

    // ---- looked at before it is used

    private static boolean isSector(int sector) {
        return sector >= 0 && sector < SECTORS;
    }

    private static void checkSector(int sector) {
        if (!isSector(sector)) {
            throw new IndexOutOfBoundsException("no such SECTOR");
        }
    }

    private static void checkFile(int file) {
        if (file < 0 || file >= MOST_FILES) {
            throw new IndexOutOfBoundsException("no such FILE");
        }
    }

    private Track trackAt(int track) {
        if (track < 0 || track >= trackCount) {
            throw new IndexOutOfBoundsException("no such TRACK");
        }
        return tracks[track];
    }

    // ---- reckoned over the whole DISC

    private int left() {
        return SECTORS - next;
    }

    private int trackOf(int sector) {
        for (int t = 0; t < trackCount; t++) {
            if (tracks[t].holds(sector)) {
                return t;
            }
        }
        return NONE;
    }

    /** An open TRACK is always one of the open SESSION, since that ends only behind its TRACKS. */
    private boolean hasOpenTrack() {
        for (int t = 0; t < trackCount; t++) {
            if (!tracks[t].isClosed) {
                return true;
            }
        }
        return false;
    }

    private boolean isGood(int sector) {
        return isSector(sector) && sectors[sector].state == GOOD;
    }

    private int goodFrom(int first, int length) {
        int good = 0;
        for (int s = first; s < first + length; s++) {
            if (isGood(s)) {
                good++;
            }
        }
        return good;
    }

    private int writtenOf(int state) {
        int count = 0;
        for (int s = 0; s < SECTORS; s++) {
            if (sectors[s].isWritten && sectors[s].state == state) {
                count++;
            }
        }
        return count;
    }

    private float sampleBetween(Track track, int ahead, int behind) {
        boolean isAheadGood = track.holds(ahead) && isGood(ahead);
        boolean isBehindGood = track.holds(behind) && isGood(behind);
        if (isAheadGood && isBehindGood) {
            return (sectors[ahead].sample() + sectors[behind].sample()) * 0.5f;
        }
        if (isAheadGood) {
            return 0.75f * sectors[ahead].sample();
        }
        if (isBehindGood) {
            return 0.75f * sectors[behind].sample();
        }
        return 0f;
    }

    /** Some SECTORS in a row; its number is where it stands among the TRACKS. */
    private static final class Track {
        private int session = 0;
        private int mode = SOUND;
        private int first = 0;
        private int has = 0;
        private int used = 0;
        private int links = 0;
        private boolean isClosed = false;

        void reserve(int inSession, int asMode, int from, int count) {
            session = inSession;
            mode = asMode;
            first = from;
            has = count;
        }

        int behind() {
            return first + has;
        }

        boolean holds(int sector) {
            return sector >= first && sector < behind();
        }

        boolean hasRoom() {
            return !isClosed && used < has;
        }

        int takeNext() {
            used++;
            return first + used - 1;
        }

        int giveBack() {
            int given = has - used;
            has = used;
            return given;
        }
    }

    /** What each SESSION told of each FILE. A length of 0 stands for one that it did not tell. */
    private static final class FileTable {
        private final int[][] firsts = new int[MOST_FILES][MOST_SESSIONS];
        private final int[][] lengths = new int[MOST_FILES][MOST_SESSIONS];

        void tell(int file, int session, int first, int length) {
            firsts[file][session] = first;
            lengths[file][session] = length;
        }

        int tellerOf(int file, int session) {
            for (int s = session; s >= 0; s--) {
                if (lengths[file][s] > 0) {
                    return s;
                }
            }
            return NONE;
        }

        int firstOf(int file, int session) {
            return firsts[file][session];
        }

        int lengthOf(int file, int session) {
            return lengths[file][session];
        }
    }

    /** Where the SECTORS lie. */
    private static final class Spiral {
        private static final int[] ZONE_SECTORS = {6, 8, 10};
        private static final int[] ZONE_FIRSTS = {0, 60, 140};
        private static final int ZONE_TURNS = 10;

        private static int zoneOf(int sector) {
            if (sector < ZONE_FIRSTS[1]) {
                return 0;
            }
            return sector < ZONE_FIRSTS[2] ? 1 : 2;
        }

        static int turnOf(int sector) {
            int zone = zoneOf(sector);
            return zone * ZONE_TURNS + (sector - ZONE_FIRSTS[zone]) / ZONE_SECTORS[zone];
        }

        static double angleOf(int sector) {
            int zone = zoneOf(sector);
            int inTurn = (sector - ZONE_FIRSTS[zone]) % ZONE_SECTORS[zone];
            return inTurn * 360.0 / ZONE_SECTORS[zone];
        }

        static float speedOf(int sector) {
            int zone = zoneOf(sector);
            if (zone == 0) {
                return 1f;
            }
            return zone == 1 ? 1.25f : 1.5f;
        }

        static int positionOf(int sector) {
            int minute = sector / 60 % 3;
            int second = sector / 5 % 12;
            return 1000 * minute + 10 * second + sector % 5;
        }
    }

    /** The head with its CLOCK, and the TRAY. */
    private static final class Drive {
        private int head = 0;
        private double clock = 0.0;
        private int reads = 0;
        private boolean isTrayOpen = false;
        private int refusals = 0;

        static double seekTime(int from, int to) {
            if (from == to) {
                return 0.0;
            }
            double took = 2.0 + 0.25 * Math.abs(Spiral.turnOf(to) - Spiral.turnOf(from));
            double ahead = Spiral.angleOf(to) - Spiral.angleOf(from) - 90.0 * took;
            return took + restOfTurn(ahead) / 90.0;
        }

        /** The language leaves out % of doubles; this is the same, as all angles here are halves below 1200. */
        private static double restOfTurn(double angle) {
            double rest = angle - 360.0 * (int) (angle / 360.0);
            return rest < 0 ? rest + 360.0 : rest;
        }

        private static double clockBehind(double start, int from, int sector) {
            double sought = start + seekTime(from, sector);
            return sought + 0.5 / (double) Spiral.speedOf(sector);
        }

        private static int headBehind(int sector) {
            return Math.min(sector + 1, SECTORS - 1);
        }

        void passOver(int sector) {
            clock = clockBehind(clock, head, sector);
            head = headBehind(sector);
            reads++;
        }

        double timeOver(int first, int behind) {
            double then = clock;
            int at = head;
            for (int s = first; s < behind; s++) {
                then = clockBehind(then, at, s);
                at = headBehind(s);
            }
            return then - clock;
        }
    }

    /** What SECTORS are reckoned with, made once and used again by all of them. */
    private static final class Bench {
        private final Block copy = new Block();
        private final Marks marks = new Marks();
    }

    /** All that follows from the BLOCK is reckoned as it changes, since it is asked far more often. */
    private static final class Sector {
        private final int number;
        private final Block block = new Block();
        private boolean isWritten = false;
        private boolean isData = false;
        private int sum = 0;
        private int state = LOST;
        private long mended = NONE;
        private int turns = 0;
        private int dsv = 0;
        private int farthest = 0;

        Sector(int number) {
            this.number = number;
        }

        void fillWith(long nibbles, boolean asData, Bench bench) {
            isWritten = true;
            isData = asData;
            sum = sumOf(nibbles);
            block.spread(mixed(nibbles));
            reckon(bench);
        }

        void eraseColumn(int column, int lastRow, Bench bench) {
            int set = 0;
            for (int row = 0; row <= lastRow; row++) {
                set |= 1 << (4 * row + column);
            }
            block.erase(set);
            reckon(bench);
        }

        boolean makeWrong(int place, int by, Bench bench) {
            if (block.isErased(place)) {
                return false;
            }
            block.put(place, block.valueAt(place) ^ by);
            reckon(bench);
            return true;
        }

        long raw() {
            return isWritten ? mixed(block.gathered()) : NONE;
        }

        float sample() {
            int total = 0;
            for (int k = 0; k < Block.NIBBLES; k++) {
                total += nibbleOf(mended, k);
            }
            return (total - 67) / 2f;
        }

        int stateWithout(int set, Block copy) {
            copy.copyFrom(block);
            copy.erase(set);
            copy.mend();
            return judged(copy);
        }

        private void reckon(Bench bench) {
            bench.copy.copyFrom(block);
            bench.copy.mend();
            state = judged(bench.copy);
            mended = state == LOST ? NONE : mixed(bench.copy.gathered());
            bench.marks.mark(block);
            turns = bench.marks.turns;
            dsv = bench.marks.dsv;
            farthest = bench.marks.farthest;
        }

        private int judged(Block afterMend) {
            if (!isWritten || afterMend.erased != 0) {
                return LOST;
            }
            boolean isFitting = !isData || sumOf(mixed(afterMend.gathered())) == sum;
            return isFitting && afterMend.isEven() ? GOOD : BAD;
        }

        /** Mixing twice gives back the same, so this also undoes itself. */
        private long mixed(long nibbles) {
            long masks = 0;
            int mask = (7 * number + 3) % 16;
            for (int k = 0; k < Block.NIBBLES; k++) {
                masks |= (long) mask << (4 * k);
                mask = (5 * mask + 3) % 16;
            }
            return nibbles ^ masks;
        }

        private static int sumOf(long nibbles) {
            int total = 0;
            for (int k = 0; k < Block.NIBBLES; k++) {
                total += (k + 1) * nibbleOf(nibbles, k);
            }
            return total % 251;
        }

        private static int nibbleOf(long nibbles, int k) {
            return (int) (nibbles >>> (4 * k)) & 15;
        }
    }

    /** 16 PLACES, 4 bits each. The value of an ERASED one is kept at 0. */
    private static final class Block {
        private static final int PLACES = 16;
        private static final int ALL_PLACES = 65535;
        private static final int NIBBLES = 9;
        private static final int COLUMNS_FROM = 4;
        private static final int LINES = 8;
        private static final int[] LINE_SETS = {0x000F, 0x00F0, 0x0F00, 0xF000, 0x1111, 0x2222, 0x4444, 0x8888};

        private long values = 0;
        private int erased = 0;

        int valueAt(int place) {
            return (int) (values >>> (4 * place)) & 15;
        }

        boolean isErased(int place) {
            return (erased >>> place & 1) == 1;
        }

        void put(int place, int value) {
            values = (values & ~(15L << (4 * place))) | ((long) (value & 15) << (4 * place));
        }

        void erase(int set) {
            erased |= set;
            for (int place = 0; place < PLACES; place++) {
                if (isErased(place)) {
                    put(place, 0);
                }
            }
        }

        void copyFrom(Block other) {
            values = other.values;
            erased = other.erased;
        }

        void spread(long mixed) {
            values = 0;
            erased = 0;
            for (int k = 0; k < NIBBLES; k++) {
                put(placeOf(k), (int) (mixed >>> (4 * k)) & 15);
            }
            for (int row = 0; row < 3; row++) {
                put(4 * row + 3, parityOf(row));
            }
            for (int column = 0; column < 4; column++) {
                put(12 + column, parityOf(COLUMNS_FROM + column));
            }
        }

        long gathered() {
            long mixed = 0;
            for (int k = 0; k < NIBBLES; k++) {
                mixed |= (long) valueAt(placeOf(k)) << (4 * k);
            }
            return mixed;
        }

        void mend() {
            fillErased();
            if (erased != 0) {
                return;
            }
            int row = onlyOddOf(0);
            int column = onlyOddOf(COLUMNS_FROM);
            if (row != NONE && column != NONE) {
                int place = 4 * row + column - COLUMNS_FROM;
                put(place, valueAt(place) ^ parityOf(row));
            }
        }

        boolean isEven() {
            for (int line = 0; line < LINES; line++) {
                if (parityOf(line) != 0) {
                    return false;
                }
            }
            return true;
        }

        /** A round that changes anything fills one of 16 PLACES at least, so the 17th changes nothing. */
        private void fillErased() {
            boolean isChanged = erased != 0;
            for (int round = 0; isChanged && round <= PLACES; round++) {
                isChanged = false;
                for (int line = 0; line < LINES; line++) {
                    int lacking = erased & LINE_SETS[line];
                    if (Integer.bitCount(lacking) == 1) {
                        put(Integer.numberOfTrailingZeros(lacking), parityOf(line));
                        erased &= ~lacking;
                        isChanged = true;
                    }
                }
            }
        }

        private int onlyOddOf(int firstLine) {
            int found = NONE;
            for (int line = firstLine; line < firstLine + 4; line++) {
                if (parityOf(line) != 0) {
                    if (found != NONE) {
                        return NONE;
                    }
                    found = line;
                }
            }
            return found;
        }

        /** Lines are the rows 0 to 3 and behind them the columns 0 to 3. */
        private int parityOf(int line) {
            boolean isRow = line < COLUMNS_FROM;
            int first = isRow ? 4 * line : line - COLUMNS_FROM;
            int step = isRow ? 1 : 4;
            int parity = 0;
            for (int k = 0; k < 4; k++) {
                parity ^= valueAt(first + k * step);
            }
            return parity;
        }

        private static int placeOf(int k) {
            return k / 3 * 4 + k % 3;
        }
    }

    /** How a BLOCK is marked. */
    private static final class Marks {
        private static final int[] WORDS = {
            32, 33, 34, 36, 37, 40, 41, 42, 64, 65, 66, 68, 69, 72, 73, 74
        };
        private static final int FIRST_BIT = 64;
        private static final int JOIN_BIT = 128;

        private int level = 1;
        private int dsv = 0;
        private int turns = 0;
        private int farthest = 0;

        void mark(Block block) {
            level = 1;
            dsv = 0;
            turns = 0;
            farthest = 0;
            int bitAhead = 0;
            for (int place = 0; place < Block.PLACES; place++) {
                int word = WORDS[block.valueAt(place) & 15];
                putBits(isJoined(bitAhead, word) ? JOIN_BIT | word : word);
                bitAhead = word & 1;
            }
        }

        private boolean isJoined(int bitAhead, int word) {
            if (bitAhead != 0 || (word & FIRST_BIT) != 0) {
                return false;
            }
            return Math.abs(dsvBehind(JOIN_BIT | word)) < Math.abs(dsvBehind(word));
        }

        private int dsvBehind(int bits) {
            int wouldLevel = level;
            int wouldDsv = dsv;
            for (int bit = JOIN_BIT; bit > 0; bit >>= 1) {
                if ((bits & bit) != 0) {
                    wouldLevel = -wouldLevel;
                }
                wouldDsv += wouldLevel;
            }
            return wouldDsv;
        }

        private void putBits(int bits) {
            for (int bit = JOIN_BIT; bit > 0; bit >>= 1) {
                if ((bits & bit) != 0) {
                    level = -level;
                    turns++;
                }
                dsv += level;
                farthest = Math.max(farthest, Math.abs(dsv));
            }
        }
    }
}
