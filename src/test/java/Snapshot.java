/** All that can be asked of a PitHouse, as one text. */
final class Snapshot {
    private Snapshot() {
    }

    static String of(PitHouse x) {
        StringBuilder all = new StringBuilder();
        for (int what = 0; what <= 12; what++) {
            all.append(x.many(what)).append(' ');
        }
        all.append(x.clock()).append(' ').append(x.digest()).append('\n');
        for (int t = 0; t < x.many(1); t++) {
            for (int what = 0; what <= 7; what++) {
                all.append(x.ofTrack(t, what)).append(' ');
            }
        }
        for (int f = 0; f < 10; f++) {
            for (int s = 0; s < x.many(0); s++) {
                all.append(x.ofFile(f, s, 0)).append(' ').append(x.ofFile(f, s, 1)).append(' ');
                all.append(x.ofFile(f, s, 2)).append(' ');
            }
        }
        for (int s = 0; s < 240; s++) {
            addSector(all, x, s);
        }
        return all.toString();
    }

    private static void addSector(StringBuilder all, PitHouse x, int s) {
        for (int what = 0; what <= 8; what++) {
            all.append(x.ofSector(s, what)).append(' ');
        }
        all.append(x.nibbles(s, false)).append(' ').append(x.nibbles(s, true)).append(' ').append(x.seek(s));
        for (int place = 0; place < 16; place++) {
            all.append(' ').append(x.place(s, place));
        }
        all.append(' ').append(Check.outcome(() -> x.play(s))).append('\n');
    }
}
