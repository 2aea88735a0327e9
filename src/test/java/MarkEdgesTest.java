/**
 * Boundary cases of the promise 17, of how a SECTOR is marked. The numbers were reckoned by another program, that
 * writes lists of bits; it also told in which cases another rule would answer other numbers.
 */
public final class MarkEdgesTest {
    private static final Edges e = new Edges("MarkEdgesTest");
    private static final Check c = e.check;

    public static void main(String[] args) {
        e.edge(17, "the 16 smallest numbers of 32 to 127 without two ones side by side in binary",
            MarkEdgesTest::allWords);
        e.edge(17, "if the bit ahead of it (0 at the very first) and the first bit of the word are both 0",
            MarkEdgesTest::veryFirst);
        e.edge(17, "the bit ahead of it", MarkEdgesTest::bitAhead);
        e.edge(17, "the first bit of the word", MarkEdgesTest::firstBit);
        e.edge(17, "would be nearer to 0 (without its sign) than with a 0; otherwise 0", MarkEdgesTest::nearer);
        e.edge(17, "LEVEL, DSV, TURNS and the bit ahead begin anew in each SECTOR.", MarkEdgesTest::anew);
        e.edge(17, "(as it is now; an ERASED one as 0)", MarkEdgesTest::asItIsNow);
        e.edge(17, "6 how far DSV was from 0 at most (behind any bit", MarkEdgesTest::farthest);
        e.finish();
    }

    private static void dueMarks(String when, Disc x, int sector, int turns, int dsv, int farthest) {
        c.due(when + ": TURNS", turns, x.ofSector(sector, 4));
        c.due(when + ": DSV", dsv, x.ofSector(sector, 5));
        c.due(when + ": farthest", farthest, x.ofSector(sector, 6));
    }

    private static void dueOfOne(String when, long nibbles, int turns, int dsv, int farthest) {
        Disc x = Disc.opened(0, 1);
        x.write(0, nibbles);
        dueMarks(when, x, 6, turns, dsv, farthest);
    }

    private static void allWords() {
        int[][] alike = {{37, -4, 10}, {37, -4, 7}, {39, 0, 12}, {35, 0, 10}, {37, 0, 9}, {38, 0, 6}, {37, -4, 11},
            {37, 0, 6}, {37, -4, 10}, {37, -4, 7}, {39, 0, 12}, {35, 0, 10}, {37, 0, 9}, {38, 0, 6}, {37, -4, 11},
            {37, 0, 6}};
        int[][] alone = {{37, -4, 10}, {38, 12, 12}, {37, -4, 13}, {33, 2, 8}, {36, 2, 7}, {40, 0, 8}, {39, 2, 7},
            {37, -6, 14}, {37, -4, 8}, {37, 8, 13}, {36, 0, 8}, {34, 2, 8}, {34, 2, 8}, {40, 0, 10}, {40, -2, 5},
            {36, -6, 14}};
        Disc x = Disc.opened(1, 32);
        for (int v = 0; v < 16; v++) {
            int s = x.write(0, 0x111111111L * v);
            dueMarks("all NIBBLES are " + v, x, s, alike[v][0], alike[v][1], alike[v][2]);
        }
        for (int v = 0; v < 16; v++) {
            int s = x.write(0, v);
            dueMarks("the NIBBLE 0 is " + v, x, s, alone[v][0], alone[v][1], alone[v][2]);
        }
    }

    /** With LEVEL 1 and DSV 0 a JOIN of 1 turns all signs, so that it is never nearer there. */
    private static void veryFirst() {
        int[][] due = {{36, 12, 12}, {38, -2, 10}, {38, 0, 10}, {38, 4, 10}, {40, 4, 12}, {38, 4, 14}, {40, 4, 10},
            {40, 6, 12}, {37, 0, 8}, {38, -2, 8}, {38, 0, 7}, {39, 0, 6}, {40, 4, 12}, {37, -4, 10}, {40, 4, 10},
            {40, 6, 12}};
        for (int v = 0; v < 16; v++) {
            dueOfOne("the PLACE 0 is " + v, v ^ 13, due[v][0], due[v][1], due[v][2]);
        }
    }

    private static void bitAhead() {
        dueOfOne("a JOIN of 1 behind a 1 would be nearer", 0xDDDDDE641L, 34, 6, 6);
    }

    private static void firstBit() {
        dueOfOne("a JOIN of 1 ahead of a 1 would be nearer", 0x6CL, 38, 10, 10);
    }

    private static void nearer() {
        dueOfOne("a tie is a 0", 0x111111F79L, 36, 2, 6);
        dueOfOne("below 0 is not nearer", 0xBC1L, 36, 2, 8);
    }

    /** The MASKS of 6, 22 and 38 are the same, so that the same NIBBLES have the same BLOCK. */
    private static void anew() {
        Disc x = Disc.opened(0, 40);
        for (int s = 6; s <= 38; s++) {
            x.write(0, s % 16 == 6 ? 0x71L : 0x123456789L * (s % 7 + 1));
        }
        dueMarks("the first SECTOR", x, 6, 36, -8, 13);
        dueMarks("behind others", x, 22, 36, -8, 13);
        dueMarks("behind still others", x, 38, 36, -8, 13);
    }

    private static void asItIsNow() {
        Disc x = Disc.opened(1, 1);
        x.write(0, 0);
        dueMarks("as WRITTEN", x, 6, 37, -4, 10);
        x.scratch(1, 1, 0, 0);
        dueMarks("the PLACE 1 is ERASED", x, 6, 36, 0, 14);
        c.due("GOOD, but it is not MENDED ahead of that", 0, x.ofSector(6, 3));
        x.scratch(1, 1, 0, 359);
        dueMarks("the column 1 is ERASED", x, 6, 31, 2, 10);
        Disc wrong = Disc.opened(1, 1);
        wrong.write(0, 0);
        wrong.rot(0);
        dueMarks("the PLACE 10 is WRONG", wrong, 6, 38, -8, 14);
        Disc lost = Disc.opened(1, 2);
        lost.write(0, 0);
        lost.write(0, 0x123456789L);
        for (int angle = 57; angle <= 60; angle++) {
            lost.scratch(1, 1, angle, 359);
        }
        dueMarks("all are ERASED", lost, 7, 16, 0, 6);
    }

    private static void farthest() {
        dueOfOne("amid a word", 0x999999C83L, 40, 0, 5);
        dueOfOne("below 0", 0x9E4L, 39, 0, 8);
        dueOfOne("behind a JOIN", 0x999999FE1L, 37, 0, 9);
        dueOfOne("at the last bit", 0x6CL, 38, 10, 10);
    }
}
