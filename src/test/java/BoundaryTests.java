/** The sections "Promise 1" to "Promise 55" of the document: each sentence that names a bound has a test of its own. */
public final class BoundaryTests extends Checks {
    private static final int[] BAD_PAGES = {-1, 4, 5, LOW, HIGH};

    public static void main(String[] args) {
        newObjects();
        rows();
        fills();
        copies();
        merges();
        flips();
        despeckling();
        pasting();
        lines();
        words();
        inks();
        fingerprints();
        undoing();
        typing();
        configuring();
        configChars();
        masks();
        comparing();
        registration();
        mismatchesAt();
        blocks();
        regionBounds();
        changeBounds();
        moves();
        changeLines();
        reports();
        learning();
        stampBounds();
        accepting();
        leastNoise();
        end("the promises hold at their bounds");
    }

    private static void promise(int number, String sentence, Runnable test) {
        says("promise " + number + ", " + sentence, test);
    }

    // ---- pages

    private static void newObjects() {
        int[][] sizes = {{LOW, 8}, {-64, 8}, {-1, 8}, {0, 8}, {7, 8}, {8, 8}, {9, 9}, {63, 63}, {64, 64}, {65, 64},
            {128, 64}, {HIGH, 64}};
        promise(1, "a value less than 8 means 8, a value greater than 64 means 64", () -> {
            for (int[] size : sizes) {
                ScanCompare x = new ScanCompare(size[0], 10);
                due(x.setRow(3, 9, -1L), size[1]);
                thrown(INDEX, () -> x.row(0, 10));
                due(x.fingerprint(0), new ScanCompare(size[1], 10).fingerprint(0));
            }
        });
        promise(1, "with the same limits", () -> {
            for (int[] size : sizes) {
                ScanCompare x = new ScanCompare(10, size[0]);
                due(x.fill(3, 9, LOW, 1, HIGH, true), 0);
                due(x.fill(3, 9, 0, 1, HIGH, true), size[1]);
                due(x.row(3, size[1] - 1), 512L);
                thrown(INDEX, () -> x.row(0, size[1]));
            }
            due(new ScanCompare(HIGH, LOW).fill(0, 0, 0, HIGH, HIGH, true), 512);
            due(new ScanCompare(LOW, HIGH).fill(0, 0, 0, HIGH, HIGH, true), 512);
        });
        promise(1, "Creates four blank pages, with the initial settings, an empty text, no masks, no stamps, and no"
            + " comparison.", () -> {
            ScanCompare x = new ScanCompare(64, 64);
            for (int p = 0; p < 4; p++) {
                due(x.ink(p, 0, 0, 64, 64), 0);
            }
            int[] initial = {8, 2, 1, 0, 8, 0, 0, 0, 4, 0};
            for (int i = 0; i < 10; i++) {
                due(x.setting(i), initial[i]);
            }
            due(x.clearText() + " " + x.configChar(0), "0 -1");
            thrown(INDEX, () -> x.removeMask(0), () -> x.forgetStamp(0), () -> x.learn(0));
            thrown(STATE, x::regions, x::undo);
            due(x.addMask(0, 0, 1, 1), 1);
        });
    }

    private static void rows() {
        promise(2, "if page or y is out of its range", () -> {
            ScanCompare x = new ScanCompare(64, 9);
            x.setRow(3, 8, 5);
            due(x.row(3, 8) + " " + x.row(0, 0), "5 0");
            for (int p : BAD_PAGES) {
                thrown(INDEX, () -> x.row(p, 0), () -> x.row(p, 9));
            }
            thrown(INDEX, () -> x.row(0, -1), () -> x.row(3, 9), () -> x.row(0, LOW), () -> x.row(0, HIGH),
                () -> x.row(0, 64));
        });
        promise(3, "the new row; bits from W on are ignored", () -> {
            for (int w : new int[] {8, 9, 31, 32, 33, 63, 64}) {
                ScanCompare x = new ScanCompare(w, 8);
                long whole = w == 64 ? -1L : (1L << w) - 1;
                due(x.setRow(0, 0, ~whole), 0);
                due(x.row(0, 0), 0L);
                due(x.setRow(0, 0, -1L), w);
                due(x.row(0, 0), whole);
                due(x.setRow(0, 0, Long.MIN_VALUE), w == 64 ? 63 : w);
                due(x.row(0, 0), w == 64 ? Long.MIN_VALUE : 0L);
            }
        });
        promise(3, "Returns the number of pixels that change.", () -> {
            ScanCompare x = new ScanCompare(64, 8);
            due(x.setRow(0, 0, 0), 0);
            due(x.setRow(0, 0, 0x5555555555555555L), 32);
            due(x.setRow(0, 0, 0xAAAAAAAAAAAAAAAAL), 64);
            due(x.setRow(0, 0, 0xAAAAAAAAAAAAAAAAL), 0);
            due(x.setRow(0, 0, 0), 32);
        });
        promise(3, "if page or y is out of its range", () -> {
            ScanCompare x = new ScanCompare(8, 9);
            for (int p : BAD_PAGES) {
                thrown(INDEX, () -> x.setRow(p, 0, 1), () -> x.setRow(p, -1, 1));
            }
            thrown(INDEX, () -> x.setRow(0, -1, 1), () -> x.setRow(0, 9, 1), () -> x.setRow(0, HIGH, 1),
                () -> x.setRow(0, LOW, 1));
            due(x.setRow(3, 8, 1), 1);
            due(x.undo(), 0);
        });
    }

    private static void fills() {
        promise(4, "Makes all pixels of a rectangle ink or blank, as far as they belong to the page.", () -> {
            ScanCompare x = new ScanCompare(9, 11);
            due(x.fill(0, -5, -5, 7, 7, true), 4);
            due(x.fill(0, 7, 9, 7, 7, true), 4);
            due(x.fill(0, -1, -1, 11, 13, true), 91);
            due(x.fill(0, -1, -1, 11, 13, true), 0);
            due(x.fill(0, 1, 1, 7, 9, false), 63);
            due(x.fill(0, 9, 0, 1, 1, false) + x.fill(0, 0, 11, 1, 1, false), 0);
            due(x.fill(0, -1, 0, 1, 11, false) + x.fill(0, 0, -1, 9, 1, false), 0);
            due(x.ink(0, 0, 0, 9, 11), 36);
        });
        promise(4, "the left column of the rectangle, any int", () -> {
            int[][] tries = {{LOW, HIGH, 0}, {-HIGH, HIGH, 0}, {-HIGH + 1, HIGH, 1}, {-HIGH + 9, HIGH, 9},
                {-HIGH + 10, HIGH, 9}, {HIGH, HIGH, 0}, {HIGH, 1, 0}, {8, HIGH, 1}, {9, HIGH, 0}, {0, HIGH, 9},
                {1, HIGH, 8}, {LOW, 0, 0}, {-64, 64, 0}, {-64, 65, 1}, {64, 64, 0}, {-1, 1, 0}, {-1, 2, 1}};
            for (int[] t : tries) {
                ScanCompare x = new ScanCompare(9, 11);
                due(x.fill(0, t[0], 0, t[1], 1, true), t[2]);
                due(x.ink(0, 0, 0, 9, 11), t[2]);
                due(x.fill(0, t[0], 0, t[1], 1, false), t[2]);
            }
        });
        promise(4, "the top row of the rectangle, any int", () -> {
            int[][] tries = {{LOW, HIGH, 0}, {-HIGH, HIGH, 0}, {-HIGH + 1, HIGH, 1}, {-HIGH + 11, HIGH, 11},
                {-HIGH + 12, HIGH, 11}, {HIGH, HIGH, 0}, {HIGH, 1, 0}, {10, HIGH, 1}, {11, HIGH, 0}, {0, HIGH, 11},
                {1, HIGH, 10}, {LOW, 0, 0}, {-64, 64, 0}, {-64, 65, 1}, {-1, 1, 0}, {-1, 2, 1}};
            for (int[] t : tries) {
                ScanCompare x = new ScanCompare(9, 11);
                due(x.fill(0, 0, t[0], 1, t[1], true), t[2]);
                due(x.ink(0, 0, 0, 9, 11), t[2]);
            }
        });
        promise(4, "the width of the rectangle, 0 or more", () -> {
            ScanCompare x = new ScanCompare(64, 64);
            due(x.fill(0, 0, 0, 0, 64, true), 0);
            due(x.fill(0, 63, 0, 1, 64, true), 64);
            due(x.fill(0, 0, 0, 63, 64, true), 63 * 64);
        });
        promise(4, "the height of the rectangle, 0 or more", () -> {
            ScanCompare x = new ScanCompare(64, 64);
            due(x.fill(0, 0, 0, 64, 0, true), 0);
            due(x.fill(0, 0, 63, 64, 1, true), 64);
            due(x.fill(0, 0, 0, 64, 63, true), 63 * 64);
        });
        promise(4, "if page is out of its range", () -> {
            ScanCompare x = new ScanCompare(8, 8);
            for (int p : BAD_PAGES) {
                thrown(INDEX, () -> x.fill(p, 0, 0, 1, 1, true), () -> x.fill(p, 0, 0, -1, -1, true));
            }
        });
        promise(4, "if w or h is negative", () -> {
            ScanCompare x = new ScanCompare(8, 8);
            thrown(ARGUMENT, () -> x.fill(0, 0, 0, -1, 1, true), () -> x.fill(0, 0, 0, 1, -1, true),
                () -> x.fill(3, 0, 0, LOW, LOW, true), () -> x.fill(0, 99, 99, -1, 0, false));
            thrown(STATE, x::undo);
        });
    }

    private static void copies() {
        promise(5, "each pixel (x, y) of the target becomes what the pixel (x - dx, y - dy) of the source was"
            + " (blank if that is outside).", () -> {
            ScanCompare x = new ScanCompare(64, 9);
            x.fill(0, 0, 0, 64, 9, true);
            int[][] tries = {{0, 0, 576}, {63, 0, 9}, {-63, 0, 9}, {64, 0, 0}, {-64, 0, 0}, {65, 0, 0}, {-65, 0, 0},
                {128, 0, 0}, {0, 8, 64}, {0, -8, 64}, {0, 9, 0}, {0, -9, 0}, {63, 8, 1}, {-63, -8, 1}, {1, 1, 504},
                {32, -4, 160}};
            for (int[] t : tries) {
                x.fill(1, 0, 0, 64, 9, false);
                due(x.copy(0, 1, t[0], t[1]), t[2]);
                due(x.ink(1, t[0], t[1], 64, 9), t[2]);
                x.fill(1, 0, 0, 64, 9, true);
                due(x.copy(0, 1, t[0], t[1]), 576 - t[2]);
            }
        });
        promise(5, "the target, 0 to 3 (it may be the source)", () -> {
            int[][] moves = {{1, 0}, {-1, 0}, {0, 1}, {0, -1}, {3, 2}, {-3, -2}, {0, 0}};
            for (int[] m : moves) {
                ScanCompare x = new ScanCompare(9, 9);
                for (int y = 0; y < 9; y++) {
                    x.setRow(0, y, 37 * y + 1);
                }
                x.copy(0, 3, m[0], m[1]);
                x.copy(0, 0, m[0], m[1]);
                due(x.fingerprint(0), x.fingerprint(3));
                x.undo();
                due(x.row(0, 8), 297L);
            }
        });
        promise(5, "any int", () -> {
            int[] far = {LOW, LOW + 1, LOW + 64, -65536, -256, 256, 65536, HIGH - 63, HIGH};
            for (int d : far) {
                ScanCompare x = new ScanCompare(64, 64);
                x.fill(0, 0, 0, 64, 64, true);
                x.fill(1, 0, 0, 64, 64, true);
                due(x.copy(0, 1, d, 0), 4096);
                due(x.copy(0, 1, 0, d), 0);
                due(x.copy(0, 1, d, d), 0);
                due(x.copy(0, 0, 0, d), 4096);
            }
        });
        promise(5, "if from or to is out of its range", () -> {
            ScanCompare x = new ScanCompare(8, 8);
            for (int p : BAD_PAGES) {
                thrown(INDEX, () -> x.copy(p, 0, 0, 0), () -> x.copy(0, p, 0, 0), () -> x.copy(p, p, 0, 0));
            }
            due(x.copy(3, 0, 0, 0) + x.copy(0, 3, 0, 0), 0);
        });
    }

    private static void merges() {
        promise(6, "what at least two of the pages 1, 2 and 3 have there (as they were before the call).", () -> {
            for (int to = 0; to < 4; to++) {
                ScanCompare x = new ScanCompare(8, 8);
                x.setRow(0, 7, 0b11110000);
                x.setRow(1, 7, 0b10101010);
                x.setRow(2, 7, 0b11001100);
                x.setRow(3, 7, 0b11110000);
                long before = x.row(to, 7);
                due(x.merge(to), Long.bitCount(before ^ 0b11101000));
                due(x.row(to, 7), 0b11101000L);
                // What two of the pages have stays so if it is put in the place of one of them.
                due(x.merge(to), 0);
            }
            ScanCompare full = new ScanCompare(64, 64);
            full.fill(1, 0, 0, 64, 64, true);
            due(full.merge(0), 0);
            full.fill(3, 0, 0, 64, 64, true);
            due(full.merge(2), 4096);
            due(full.merge(0), 4096);
        });
        promise(6, "if to is out of its range", () -> {
            ScanCompare x = new ScanCompare(8, 8);
            for (int p : BAD_PAGES) {
                thrown(INDEX, () -> x.merge(p));
            }
            due(x.merge(3), 0);
        });
    }

    private static void flips() {
        promise(7, "0 to mirror it left to right, 1 to mirror it top to bottom, 2 for both, which is a rotation by"
            + " 180 degrees", () -> {
            for (int[] size : new int[][] {{8, 8}, {9, 11}, {63, 8}, {64, 64}}) {
                int right = size[0] - 1;
                int bottom = size[1] - 1;
                int[][] ends = {{right, 0}, {0, bottom}, {right, bottom}};
                for (int kind = 0; kind < 3; kind++) {
                    ScanCompare x = new ScanCompare(size[0], size[1]);
                    dots(x, 2, 0, 0);
                    due(x.flip(2, kind), 2);
                    due(x.ink(2, ends[kind][0], ends[kind][1], 1, 1), 1);
                    due(x.flip(2, kind), 2);
                    due(x.row(2, 0), 1L);
                    // The middle of an odd page stays.
                    ScanCompare y = new ScanCompare(size[0], size[1]);
                    dots(y, 0, right / 2, bottom / 2);
                    boolean moves = kind != 1 && right % 2 == 1 || kind != 0 && bottom % 2 == 1;
                    due(y.flip(0, kind), moves ? 2 : 0);
                }
            }
        });
        promise(7, "if kind is out of its range", () -> {
            ScanCompare x = new ScanCompare(8, 8);
            thrown(ARGUMENT, () -> x.flip(0, -1), () -> x.flip(0, 3), () -> x.flip(3, LOW), () -> x.flip(0, HIGH));
            thrown(STATE, x::undo);
        });
        promise(7, "if page is out of its range", () -> {
            ScanCompare x = new ScanCompare(8, 8);
            for (int p : BAD_PAGES) {
                thrown(INDEX, () -> x.flip(p, 0), () -> x.flip(p, 3));
            }
        });
    }

    private static void despeckling() {
        promise(8, "Removes all components of a page that have fewer pixels than a given size.", () -> {
            int[] sizes = {1, 2, 3, 62, 63, 64};
            for (int pixels : sizes) {
                ScanCompare x = new ScanCompare(64, 64);
                x.fill(0, 0, 7, pixels, 1, true);
                due(x.despeckle(0, pixels), 0);
                due(x.ink(0, 0, 0, 64, 64), pixels);
                if (pixels < 64) {
                    due(x.despeckle(0, pixels + 1), 1);
                    due(x.ink(0, 0, 0, 64, 64), 0);
                }
            }
            ScanCompare x = new ScanCompare(64, 64);
            due(x.despeckle(0, 64), 0);
            for (int y = 0; y < 64; y += 2) {
                x.setRow(0, y, 0x5555555555555555L);
            }
            due(x.despeckle(0, 1), 0);
            due(x.despeckle(0, 2), 1024);
            due(x.fill(0, 0, 0, 64, 64, true), 4096);
            due(x.despeckle(0, 64), 0);
        });
        promise(8, "0 to 64", () -> {
            ScanCompare x = new ScanCompare(64, 8);
            x.setRow(0, 0, -1L);
            due(x.despeckle(0, 0) + x.despeckle(0, 64), 0);
            dots(x, 0, 63, 2);
            x.fill(0, 0, 0, 1, 1, false);
            due(x.despeckle(0, 0), 0);
            due(x.despeckle(0, 64), 2);
            due(x.ink(0, 0, 0, 64, 8), 0);
        });
        promise(8, "if size is out of its range", () -> {
            ScanCompare x = new ScanCompare(8, 8);
            thrown(ARGUMENT, () -> x.despeckle(0, -1), () -> x.despeckle(3, 65), () -> x.despeckle(0, LOW),
                () -> x.despeckle(0, HIGH));
            thrown(STATE, x::undo);
        });
        promise(8, "if page is out of its range", () -> {
            ScanCompare x = new ScanCompare(8, 8);
            for (int p : BAD_PAGES) {
                thrown(INDEX, () -> x.despeckle(p, 0), () -> x.despeckle(p, 65));
            }
        });
    }

    private static void pasting() {
        promise(9, "The text is empty then, and this is an edit.", () -> {
            ScanCompare x = new ScanCompare(8, 8);
            due(paste(x, 3, 0, 0, "!") + " " + x.clearText(), "0 0");
            due(paste(x, 3, 7, 7, "o!") + " " + x.clearText(), "1 0");
            due(x.undo() + " " + x.row(3, 7), "1 0");
            due(x.undo(), 0);
        });
        promise(9, "If the text has an error, nothing is changed, and the text stays.", () -> {
            ScanCompare x = new ScanCompare(8, 8);
            due(paste(x, 0, 0, 0, "64o"), -4);
            due(x.paste(0, 0, 0), -4);
            due(x.type('!'), 4);
            due(x.paste(0, 0, 0), 8);
            due(x.undo(), 0);
            due(x.paste(0, 0, 0), -1);
            thrown(STATE, x::undo);
        });
        promise(9, "Returns the number of pixels that change; -1 minus the error position if the text has an error.",
            () -> {
            ScanCompare x = new ScanCompare(8, 8);
            due(paste(x, 0, 0, 0, "4o4b!"), 4);
            due(paste(x, 0, 0, 0, "2b6o!"), 6);
            due(paste(x, 0, 0, 0, "2b6o!"), 0);
            due(x.paste(0, 0, 0), -1);
            due(paste(x, 0, 0, 0, "x"), -1);
            due(paste(x, 0, 0, 0, "o".repeat(79)), -80);
            x.type('5');
            due(x.paste(0, 0, 0), -81);
        });
        promise(9, "if page is out of its range", () -> {
            ScanCompare x = new ScanCompare(8, 8);
            type(x, "o!");
            for (int p : BAD_PAGES) {
                thrown(INDEX, () -> x.paste(p, 0, 0));
            }
            due(x.clearText(), 2);
            thrown(INDEX, () -> x.paste(4, 0, 0));
        });
    }

    private static void lines() {
        promise(10, "if page is out of its range", () -> {
            ScanCompare x = new ScanCompare(8, 8);
            for (int p : BAD_PAGES) {
                thrown(INDEX, () -> x.components(p));
            }
            dots(x, 3, 0, 0, 7, 7);
            due(x.components(3) + " " + x.components(0), "2 0");
        });
        promise(10, "Counts the components of a page.", () -> {
            ScanCompare x = new ScanCompare(64, 64);
            int count = 0;
            for (int y = 0; y < 64; y += 2) {
                for (int k = 0; k < 64; k += 2) {
                    dots(x, 0, k, y);
                    count++;
                }
            }
            due(x.components(0), count);
            for (int y = 0; y < 64; y++) {
                x.setRow(1, y, y % 2 == 0 ? 0x5555555555555555L : 0xAAAAAAAAAAAAAAAAL);
            }
            due(x.components(1), 1);
        });
        promise(11, "if page is out of its range", () -> {
            ScanCompare x = new ScanCompare(8, 8);
            for (int p : BAD_PAGES) {
                thrown(INDEX, () -> x.lines(p));
            }
            due(x.lines(0) + " " + x.lines(3), "0 0");
        });
        promise(12, "if page is out of its range or there is no such text line", () -> {
            ScanCompare x = new ScanCompare(8, 8);
            thrown(INDEX, () -> x.lineTop(0, 0), () -> x.lineTop(0, -1));
            draw(x, 3, "#", "", "#", "#", "", "", "", "#");
            due(x.lineTop(3, 0) + " " + x.lineTop(3, 1) + " " + x.lineTop(3, 2), "0 2 7");
            thrown(INDEX, () -> x.lineTop(3, 3), () -> x.lineTop(3, -1), () -> x.lineTop(3, LOW),
                () -> x.lineTop(3, HIGH));
            for (int p : BAD_PAGES) {
                thrown(INDEX, () -> x.lineTop(p, 0), () -> x.lineTop(p, -1));
            }
        });
        promise(13, "if page is out of its range or there is no such text line", () -> {
            ScanCompare x = new ScanCompare(8, 8);
            thrown(INDEX, () -> x.lineBottom(0, 0), () -> x.lineBottom(0, -1));
            draw(x, 3, "#", "", "#", "#", "", "", "", "#");
            due(x.lineBottom(3, 0) + " " + x.lineBottom(3, 1) + " " + x.lineBottom(3, 2), "0 3 7");
            thrown(INDEX, () -> x.lineBottom(3, 3), () -> x.lineBottom(3, -1), () -> x.lineBottom(3, LOW),
                () -> x.lineBottom(3, HIGH));
            for (int p : BAD_PAGES) {
                thrown(INDEX, () -> x.lineBottom(p, 0), () -> x.lineBottom(p, -1));
            }
        });
    }

    private static void words() {
        promise(14, "Two successive ones of these columns belong to the same word if fewer than gap columns are"
            + " between them.", () -> {
            for (int between = 0; between <= 62; between++) {
                ScanCompare x = new ScanCompare(64, 8);
                dots(x, 0, 0, 3, between + 1, 3);
                for (int gap = 1; gap <= 64; gap++) {
                    due(x.words(0, 0, gap), between < gap ? 1 : 2);
                }
            }
            ScanCompare x = new ScanCompare(64, 8);
            x.setRow(0, 0, 0x5555555555555555L);
            due(x.words(0, 0, 1) + " " + x.words(0, 0, 2), "32 1");
            x.setRow(0, 1, -1L);
            due(x.words(0, 0, 1), 1);
        });
        promise(14, "Consider the columns that contain ink in the rows of the text line.", () -> {
            ScanCompare x = new ScanCompare(64, 8);
            dots(x, 0, 63, 7);
            due(x.words(0, 0, 1), 1);
            dots(x, 0, 0, 6, 5, 5, 30, 3);
            due(x.words(0, 0, 1) + " " + x.words(0, 1, 1), "1 3");
            dots(x, 0, 40, 4);
            due(x.words(0, 0, 1), 5);
        });
        promise(14, "if page is out of its range or there is no such text line", () -> {
            ScanCompare x = new ScanCompare(8, 8);
            thrown(INDEX, () -> x.words(0, 0, 1), () -> x.words(0, 0, 0));
            dots(x, 3, 0, 7);
            due(x.words(3, 0, 1), 1);
            thrown(INDEX, () -> x.words(3, 1, 1), () -> x.words(3, -1, 65), () -> x.words(3, HIGH, 0),
                () -> x.words(3, LOW, 1));
            for (int p : BAD_PAGES) {
                thrown(INDEX, () -> x.words(p, 0, 1), () -> x.words(p, 0, 0));
            }
        });
        promise(14, "if gap is out of its range", () -> {
            ScanCompare x = new ScanCompare(8, 8);
            dots(x, 0, 0, 0);
            thrown(ARGUMENT, () -> x.words(0, 0, 0), () -> x.words(0, 0, 65), () -> x.words(0, 0, LOW),
                () -> x.words(0, 0, HIGH));
            due(x.words(0, 0, 1) + x.words(0, 0, 64), 2);
        });
    }

    private static void inks() {
        promise(15, "Counts the ink pixels of a page in a rectangle, as far as it belongs to the page.", () -> {
            ScanCompare x = new ScanCompare(9, 11);
            x.fill(0, 0, 0, 9, 11, true);
            int[][] tries = {{0, 0, 9, 11, 99}, {-1, -1, 11, 13, 99}, {0, 0, HIGH, HIGH, 99}, {8, 10, HIGH, HIGH, 1},
                {9, 0, 9, 9, 0}, {0, 11, 9, 9, 0}, {-5, -5, 5, 64, 0}, {-5, -5, 64, 5, 0}, {-5, -5, 6, 6, 1},
                {LOW, LOW, HIGH, HIGH, 0}, {-HIGH + 1, -HIGH + 1, HIGH, HIGH, 1}, {HIGH, HIGH, HIGH, HIGH, 0},
                {0, 0, 0, 9, 0}, {0, 0, 9, 0, 0}, {4, 4, 1, 1, 1}, {-HIGH + 9, -HIGH + 11, HIGH, HIGH, 99},
                {LOW, 0, 9, 9, 0}};
            for (int[] t : tries) {
                due(x.ink(0, t[0], t[1], t[2], t[3]), t[4]);
            }
        });
        promise(15, "if page is out of its range", () -> {
            ScanCompare x = new ScanCompare(8, 8);
            for (int p : BAD_PAGES) {
                thrown(INDEX, () -> x.ink(p, 0, 0, 1, 1), () -> x.ink(p, 0, 0, -1, -1));
            }
        });
        promise(15, "if w or h is negative", () -> {
            ScanCompare x = new ScanCompare(8, 8);
            thrown(ARGUMENT, () -> x.ink(0, 0, 0, -1, 0), () -> x.ink(0, 0, 0, 0, -1), () -> x.ink(3, 0, 0, LOW, LOW),
                () -> x.ink(0, 99, 99, 1, -1));
        });
    }

    private static void fingerprints() {
        promise(16, "and, for each row from the top, 31 times itself plus the row, in long arithmetic with overflow.",
            () -> {
            for (int[] size : new int[][] {{8, 64}, {64, 8}, {64, 64}, {8, 8}}) {
                ScanCompare x = new ScanCompare(size[0], size[1]);
                x.fill(3, 0, 0, 64, 64, true);
                x.setRow(3, 0, 1);
                long print = (17 * 31 + size[0]) * 31 + size[1];
                for (int y = 0; y < size[1]; y++) {
                    print = print * 31 + x.row(3, y);
                }
                due(x.fingerprint(3), print);
                due(x.fingerprint(3) == x.fingerprint(0), false);
            }
        });
        promise(16, "if page is out of its range", () -> {
            ScanCompare x = new ScanCompare(8, 8);
            for (int p : BAD_PAGES) {
                thrown(INDEX, () -> x.fingerprint(p));
            }
        });
    }

    private static void undoing() {
        promise(17, "Returns how many edits can still be undone.", () -> {
            ScanCompare x = new ScanCompare(8, 8);
            x.merge(0);
            due(x.undo(), 0);
            x.merge(0);
            x.merge(0);
            due(x.undo(), 1);
            for (int k = 0; k < 8; k++) {
                x.merge(0);
            }
            due(x.undo(), 7);
            x.merge(0);
            x.merge(0);
            due(x.undo(), 7);
        });
        promise(17, "if no edit can be undone", () -> {
            ScanCompare x = new ScanCompare(8, 8);
            thrown(STATE, x::undo, x::undo);
            for (int k = 1; k <= 9; k++) {
                x.setRow(0, 0, k);
            }
            for (int k = 0; k < 8; k++) {
                x.undo();
            }
            thrown(STATE, x::undo, x::undo);
            due(x.row(0, 0), 1L);
        });
    }

    // ---- settings, masks

    private static void typing() {
        promise(18, "if c is out of its range", () -> {
            ScanCompare x = new ScanCompare(8, 8);
            thrown(ARGUMENT, () -> x.type(31), () -> x.type(127), () -> x.type(0), () -> x.type(-1),
                () -> x.type(LOW), () -> x.type(HIGH), () -> x.type(32 + 256), () -> x.type(111 + 65536));
            due(x.type(32) + " " + x.type(126), "1 2");
        });
        promise(18, "if the text has 80 characters already", () -> {
            ScanCompare x = new ScanCompare(8, 8);
            due(type(x, "o".repeat(80)), 80);
            thrown(STATE, () -> x.type('o'), () -> x.type(32), () -> x.type(126));
            thrown(ARGUMENT, () -> x.type(31), () -> x.type(127));
            due(x.clearText(), 80);
            due(x.type('o'), 1);
        });
        promise(19, "Returns the length that it had.", () -> {
            ScanCompare x = new ScanCompare(8, 8);
            due(x.clearText(), 0);
            x.type(32);
            due(x.clearText() + " " + x.clearText(), "1 0");
            type(x, "o".repeat(79));
            due(x.clearText() + " " + x.clearText(), "79 0");
        });
    }

    private static void configuring() {
        promise(20, "The text is empty then. If the text has an error, nothing is changed, and the text stays.", () -> {
            ScanCompare x = new ScanCompare(8, 8);
            due(configure(x, "block=4") + " " + x.clearText(), "1 0");
            due(configure(x, "block=9;noise=9;turn=maybe"), -22);
            due(x.setting(0) + " " + x.setting(1) + " " + description(x), "4 2 block=4");
            due(x.configure() + " " + x.clearText(), "-22 26");
            // What is put right by more characters is taken.
            due(configure(x, "block=1"), -7);
            due(x.type('6'), 8);
            due(x.configure() + " " + x.setting(0), "1 16");
        });
        promise(20, "Returns the number of settings in the text, repeated ones included; -1 minus the error"
            + " position if the text has an error.", () -> {
            ScanCompare x = new ScanCompare(8, 8);
            due(x.configure(), 0);
            due(configure(x, "skew=1;skew=1;skew=2"), 3);
            due(configure(x, "skew=1;".repeat(10) + "noise=0000"), -77);
            due(configure(x, "skew=1;".repeat(11)), -78);
            due(configure(x, "skew=1;".repeat(10) + "skew=1"), 11);
            due(configure(x, "x"), -1);
        });
        promise(21, "if i is out of its range", () -> {
            ScanCompare x = new ScanCompare(8, 8);
            configure(x, "block=16;stamps=hide");
            due(x.setting(0) + " " + x.setting(9), "16 1");
            thrown(INDEX, () -> x.setting(-1), () -> x.setting(10), () -> x.setting(LOW), () -> x.setting(HIGH));
        });
    }

    private static void configChars() {
        promise(22, "The description contains each setting that has been given to configure() without an error so"
            + " far, once, in the order in which they were first given", () -> {
            ScanCompare x = new ScanCompare(8, 8);
            due(description(x), "");
            x.configure();
            due(description(x), "");
            configure(x, "pair=9;block=8;x");
            due(description(x), "");
            configure(x, "pair=9;pair=10");
            configure(x, "block=8;pair=11");
            due(description(x), "pair=11;block=8");
            String all = "stamps=hide;order=columns;turn=on;skew=0;search=0;speckle=0;jitter=0;noise=0";
            due(configure(x, all), 8);
            due(description(x), "pair=11;block=8;" + all);
            due(configure(x, "noise=256;stamps=keep;order=rows;turn=off"), 4);
            due(description(x), "pair=11;block=8;stamps=keep;order=rows;turn=off;skew=0;search=0;speckle=0;jitter=0;"
                + "noise=256");
        });
        promise(22, "its present value (as a number without leading zeros, or as a word)", () -> {
            ScanCompare x = new ScanCompare(8, 8);
            String[][] tries = {{"noise=000", "noise=0"}, {"noise=010", "noise=10"}, {"noise=100", "noise=100"},
                {"noise=099", "noise=99"}, {"noise=256", "noise=256"}, {"noise=9", "noise=9"}};
            for (String[] t : tries) {
                configure(x, t[0]);
                due(description(x), t[1]);
            }
            configure(x, "turn=off");
            due(description(x), "noise=9;turn=off");
        });
        promise(22, "Returns its code; -1 if the description has no such character.", () -> {
            ScanCompare x = new ScanCompare(8, 8);
            due(x.configChar(0) + " " + x.configChar(HIGH), "-1 -1");
            configure(x, "noise=5;skew=1");
            due(x.configChar(0) + " " + x.configChar(7) + " " + x.configChar(13) + " " + x.configChar(14),
                "110 59 49 -1");
            due(x.configChar(HIGH), -1);
        });
        promise(22, "if i is negative", () -> {
            ScanCompare x = new ScanCompare(8, 8);
            thrown(INDEX, () -> x.configChar(-1), () -> x.configChar(LOW));
            configure(x, "noise=5");
            thrown(INDEX, () -> x.configChar(-1), () -> x.configChar(LOW));
        });
    }

    private static void masks() {
        promise(23, "if the rectangle is not as described", () -> {
            ScanCompare x = new ScanCompare(9, 11);
            int[][] bad = {{-1, 0, 1, 1}, {0, -1, 1, 1}, {0, 0, 0, 1}, {0, 0, 1, 0}, {0, 0, -1, 1}, {0, 0, 1, -1},
                {0, 0, 10, 1}, {0, 0, 1, 12}, {8, 0, 2, 1}, {0, 10, 1, 2}, {9, 0, 1, 1}, {0, 11, 1, 1}, {9, 0, 0, 1},
                {0, 11, 1, 0}, {-1, 0, 3, 1}, {0, -1, 1, 3}, {1, 0, HIGH, 1}, {0, 1, 1, HIGH}, {HIGH, 0, HIGH, 1},
                {0, HIGH, 1, HIGH}, {HIGH, HIGH, 2, 2}, {LOW, LOW, LOW, LOW}, {LOW, 0, 1, 1}, {0, LOW, 1, 1},
                {0, 0, LOW, 1}, {0, 0, 1, LOW}, {HIGH, 0, LOW, 1}};
            for (int[] m : bad) {
                thrown(ARGUMENT, () -> x.addMask(m[0], m[1], m[2], m[3]));
            }
            due(x.addMask(0, 0, 9, 11), 1);
            due(x.addMask(8, 10, 1, 1), 2);
            due(x.addMask(8, 0, 1, 11), 3);
            due(x.addMask(0, 10, 9, 1), 4);
            due(x.addMask(0, 0, 9, 11), 5);
        });
        promise(23, "if there are 6 masks already", () -> {
            ScanCompare x = new ScanCompare(8, 8);
            for (int k = 1; k <= 6; k++) {
                due(x.addMask(0, 0, 8, 8), k);
            }
            thrown(STATE, () -> x.addMask(0, 0, 8, 8));
            thrown(ARGUMENT, () -> x.addMask(0, 0, 9, 8));
            due(x.removeMask(5), 5);
            due(x.addMask(0, 0, 8, 8), 6);
            thrown(STATE, () -> x.addMask(7, 7, 1, 1));
        });
        promise(24, "if there is no such mask", () -> {
            ScanCompare x = new ScanCompare(8, 8);
            thrown(INDEX, () -> x.removeMask(0), () -> x.removeMask(-1));
            x.addMask(0, 0, 1, 1);
            thrown(INDEX, () -> x.removeMask(1), () -> x.removeMask(-1), () -> x.removeMask(LOW),
                () -> x.removeMask(HIGH));
            due(x.removeMask(0), 0);
            for (int k = 0; k < 6; k++) {
                x.addMask(0, 0, 1, 1);
            }
            thrown(INDEX, () -> x.removeMask(6));
            due(x.removeMask(5), 5);
            thrown(INDEX, () -> x.removeMask(5));
        });
        promise(24, "Removes a mask; the numbers of those after it decrease by 1.", () -> {
            for (int gone = 0; gone < 6; gone++) {
                ScanCompare x = plain(64, 8);
                for (int k = 0; k < 6; k++) {
                    dots(x, 1, 8 * k, 0);
                    x.addMask(8 * k, 0, 1, 1);
                }
                due(x.removeMask(gone), 5);
                due(corners(x), 8 * gone + ",0 ");
                int next = gone == 0 ? 1 : 0;
                due(x.removeMask(0), 4);
                due(corners(x), 8 * Math.min(gone, next) + ",0 " + 8 * Math.max(gone, next) + ",0 ");
            }
        });
    }

    // ---- comparison, registration

    private static void comparing() {
        promise(25, "Compares page 0 with page 1, with the present settings, masks and stamps.", () -> {
            ScanCompare x = plain(32, 32);
            x.fill(2, 0, 0, 32, 32, true);
            due(x.compare(), 0);
            dots(x, 0, 1, 1);
            dots(x, 1, 9, 9);
            due(x.compare(), 1);
            configure(x, "pair=2");
            due(x.changes() + " " + x.compare(), "1 2");
            x.addMask(9, 9, 1, 1);
            due(x.changes() + " " + x.compare(), "2 1");
            x.learn(0);
            configure(x, "stamps=hide");
            due(x.changes() + " " + x.compare(), "1 0");
            x.forgetStamp(0);
            due(x.changes() + " " + x.compare(), "0 1");
        });
        promise(25, "Returns the number of changes.", () -> {
            ScanCompare x = plain(64, 64);
            due(x.compare() + " " + x.changes(), "0 0");
            configure(x, "pair=99");
            // A removed and an added part in each of as many regions as there can be.
            for (int y = 0; y < 64; y += 4) {
                x.setRow(0, y, (y & 4) == 0 ? 0x0101010101010101L : 0x1010101010101010L);
            }
            x.copy(0, 1, 2, 2);
            due(x.compare() + " " + x.changes() + " " + x.regions(), "256 256 128");
            due(x.changeRegion(255) + " " + x.changeKind(255), "127 2");
            thrown(INDEX, () -> x.changeKind(256));
            configure(x, "pair=1");
            due(x.compare() + " " + x.changes() + " " + x.regions(), "128 128 128");
            // The first region has the least number, so that each part is paired with that of its own region.
            due(x.changeTarget(0) + " " + x.changeTarget(127), "0 127");
        });
    }

    private static void registration() {
        promise(26, "Returns dx.", () -> {
            ScanCompare x = corner();
            for (int dx = -16; dx <= 16; dx += 16) {
                x.copy(0, 1, dx, 0);
                x.compare();
                due(x.shiftX() + " " + x.mismatch(), dx + " 0");
            }
        });
        promise(27, "Returns dy.", () -> {
            ScanCompare x = corner();
            for (int dy = -16; dy <= 16; dy += 16) {
                x.copy(0, 1, 0, dy);
                x.compare();
                due(x.shiftY() + " " + x.mismatch(), dy + " 0");
            }
        });
        promise(28, "Returns the skew s.", () -> {
            for (int s = -2; s <= 2; s++) {
                ScanCompare x = new ScanCompare(64, 64);
                configure(x, "skew=2;search=0");
                x.fill(1, 30, 0, 2, 64, true);
                for (int y = 0; y < 64; y++) {
                    x.fill(0, 30 - Math.floorDiv(s * y, 16), y, 2, 1, true);
                }
                x.compare();
                due(x.skew() + " " + x.mismatch(), s + " 0");
            }
        });
        promise(29, "Returns true if t is 1.", () -> {
            ScanCompare x = corner();
            x.copy(0, 1, 0, 0);
            configure(x, "turn=on");
            x.compare();
            due(x.turned(), false);
            x.flip(1, 2);
            x.compare();
            due(x.turned() + " " + x.mismatch(), "true 0");
            configure(x, "turn=off");
            due(x.turned(), true);
            x.compare();
            due(x.turned(), false);
        });
        promise(30, "Returns the mismatch.", () -> {
            ScanCompare x = new ScanCompare(64, 64);
            x.compare();
            due(x.mismatch(), 0);
            x.fill(0, 0, 0, 64, 64, true);
            x.compare();
            due(x.mismatch(), 4096);
        });
        promise(31, "(W * H - mismatch) * 1000 / (W * H), rounded down.", () -> {
            for (int pixels = 0; pixels <= 64; pixels++) {
                ScanCompare x = plain(8, 8);
                for (int k = 0; k < pixels; k++) {
                    dots(x, 0, k % 8, k / 8);
                }
                x.compare();
                due(x.similarity(), (64 - pixels) * 1000 / 64);
            }
            ScanCompare x = plain(64, 64);
            x.fill(0, 0, 0, 64, 64, true);
            x.compare();
            due(x.similarity(), 0);
            dots(x, 1, 0, 0, 1, 0, 2, 0, 3, 0);
            x.compare();
            due(x.similarity(), 0);
            dots(x, 1, 4, 0);
            x.compare();
            due(x.similarity(), 1);
            x.fill(1, 0, 0, 64, 64, true);
            x.compare();
            due(x.similarity(), 1000);
            x.fill(1, 9, 9, 1, 1, false);
            x.compare();
            due(x.similarity(), 999);
        });
        ask(26, ScanCompare::shiftX, 0);
        ask(27, ScanCompare::shiftY, 0);
        ask(28, ScanCompare::skew, 0);
        ask(29, ScanCompare::turned, false);
        ask(30, ScanCompare::mismatch, 0);
        ask(31, ScanCompare::similarity, 1000);
        ask(34, ScanCompare::regions, 0);
        ask(42, ScanCompare::changes, 0);
    }

    private interface Question {
        Object of(ScanCompare x);
    }

    /** Tests a question without arguments, before and after a comparison of blank pages. */
    private static void ask(int number, Question question, Object blank) {
        promise(number, "if there is no comparison", () -> {
            ScanCompare x = new ScanCompare(8, 8);
            thrown(STATE, () -> question.of(x));
            x.fill(0, 0, 0, 8, 8, true);
            x.undo();
            x.configure();
            thrown(STATE, () -> question.of(x));
            x.compare();
            due(question.of(x), blank);
        });
    }

    /** A shape in the middle that is not its own half turn, and search 16. */
    private static ScanCompare corner() {
        ScanCompare x = new ScanCompare(64, 64);
        configure(x, "search=16");
        x.fill(0, 24, 24, 16, 4, true);
        x.fill(0, 24, 28, 4, 12, true);
        return x;
    }

    private static void mismatchesAt() {
        promise(32, "-16 to 16", () -> {
            ScanCompare x = plain(64, 64);
            dots(x, 0, 32, 32);
            for (int dy = -16; dy <= 16; dy++) {
                for (int dx = -16; dx <= 16; dx++) {
                    x.fill(1, 0, 0, 64, 64, false);
                    dots(x, 1, 32 + dx, 32 + dy);
                    x.compare();
                    due(x.mismatchAt(dx, dy), 0);
                    due(x.mismatchAt(dx, dy == 16 ? 15 : dy + 1), 2);
                }
            }
        });
        promise(32, "Returns the mismatch that another shift would have had, with the chosen turn and skew.", () -> {
            ScanCompare x = corner();
            configure(x, "turn=on;search=0");
            x.copy(0, 1, 0, 0);
            x.flip(1, 2);
            x.compare();
            due(x.turned() + " " + x.mismatchAt(0, 0) + " " + x.mismatchAt(1, 0), "true 0 32");
            x.fill(0, 0, 0, 64, 64, false);
            x.fill(1, 0, 0, 64, 64, false);
            due(x.mismatchAt(0, 0) + " " + x.mismatchAt(1, 0), "0 32");
        });
        promise(32, "if dx or dy is out of its range", () -> {
            ScanCompare x = new ScanCompare(8, 8);
            x.compare();
            thrown(ARGUMENT, () -> x.mismatchAt(-17, 0), () -> x.mismatchAt(17, 0), () -> x.mismatchAt(0, -17),
                () -> x.mismatchAt(0, 17), () -> x.mismatchAt(LOW, LOW), () -> x.mismatchAt(HIGH, HIGH),
                () -> x.mismatchAt(17, -16), () -> x.mismatchAt(-17, 16));
            due(x.mismatchAt(-16, -16) + x.mismatchAt(16, 16) + x.mismatchAt(-16, 16) + x.mismatchAt(16, -16), 0);
        });
        promise(32, "if there is no comparison", () -> {
            ScanCompare x = new ScanCompare(8, 8);
            thrown(STATE, () -> x.mismatchAt(0, 0), () -> x.mismatchAt(17, 0), () -> x.mismatchAt(0, LOW));
        });
    }

    // ---- blocks, regions

    private static void blocks() {
        promise(33, "if there is no such block", () -> {
            ScanCompare x = plain(9, 17);
            x.compare();
            due(x.blockDifference(0, 0) + x.blockDifference(2, 4), 0);
            thrown(INDEX, () -> x.blockDifference(3, 0), () -> x.blockDifference(0, 5),
                () -> x.blockDifference(-1, 0), () -> x.blockDifference(0, -1), () -> x.blockDifference(LOW, LOW),
                () -> x.blockDifference(HIGH, HIGH), () -> x.blockDifference(3, -1), () -> x.blockDifference(-1, 1));
            // The blocks are those of the comparison.
            configure(x, "block=16");
            thrown(INDEX, () -> x.blockDifference(3, 0));
            due(x.blockDifference(2, 4), 0);
            x.compare();
            due(x.blockDifference(0, 1), 0);
            thrown(INDEX, () -> x.blockDifference(1, 0), () -> x.blockDifference(0, 2));
        });
        promise(33, "if there is no comparison", () -> {
            ScanCompare x = new ScanCompare(8, 8);
            thrown(STATE, () -> x.blockDifference(0, 0), () -> x.blockDifference(-1, 0), () -> x.blockDifference(9, 9));
        });
        promise(35, "-1 if the pixel belongs to no changed block.", () -> {
            ScanCompare x = plain(10, 10);
            x.compare();
            due(x.regionAt(0, 0) + " " + x.regionAt(9, 9), "-1 -1");
            dots(x, 1, 9, 9, 4, 4);
            x.compare();
            due(x.regionAt(9, 9) + " " + x.regionAt(8, 8) + " " + x.regionAt(7, 8) + " " + x.regionAt(8, 7),
                "1 1 -1 -1");
            due(x.regionAt(4, 4) + " " + x.regionAt(7, 7) + " " + x.regionAt(3, 4) + " " + x.regionAt(4, 3),
                "0 0 -1 -1");
            configure(x, "noise=1");
            x.compare();
            due(x.regionAt(9, 9), -1);
        });
        promise(35, "if x or y is out of its range", () -> {
            ScanCompare x = plain(9, 11);
            x.fill(1, 0, 0, 9, 11, true);
            x.compare();
            due(x.regionAt(0, 0) + x.regionAt(8, 10), 0);
            thrown(INDEX, () -> x.regionAt(9, 0), () -> x.regionAt(0, 11), () -> x.regionAt(-1, 0),
                () -> x.regionAt(0, -1), () -> x.regionAt(LOW, LOW), () -> x.regionAt(HIGH, HIGH),
                () -> x.regionAt(11, 0), () -> x.regionAt(9, 11));
        });
        promise(35, "if there is no comparison", () -> {
            ScanCompare x = new ScanCompare(8, 8);
            thrown(STATE, () -> x.regionAt(0, 0), () -> x.regionAt(-1, 0), x::regions);
        });
    }

    private interface Get {
        int of(ScanCompare x, int number);
    }

    private static void regionBounds() {
        Get[] gets = {ScanCompare::regionLeft, ScanCompare::regionTop, ScanCompare::regionRight,
            ScanCompare::regionBottom, ScanCompare::missingPixels, ScanCompare::addedPixels};
        int[][] answers = {{63, 62, 63, 62, 1, 0}, {0, 0, 0, 1, 0, 2}};
        for (int k = 0; k < gets.length; k++) {
            Get get = gets[k];
            int first = answers[1][k];
            int last = answers[0][k];
            promise(36 + k, "if there is no such region", () -> {
                ScanCompare x = plain(64, 64);
                x.compare();
                thrown(INDEX, () -> get.of(x, 0), () -> get.of(x, -1));
                dots(x, 0, 63, 62);
                dots(x, 1, 0, 0, 0, 1);
                x.compare();
                due(get.of(x, 0) + " " + get.of(x, 1), first + " " + last);
                thrown(INDEX, () -> get.of(x, 2), () -> get.of(x, -1), () -> get.of(x, LOW), () -> get.of(x, HIGH));
                // What was a region of an earlier comparison is none of this one.
                x.fill(1, 0, 0, 64, 64, false);
                x.compare();
                due(get.of(x, 0), last);
                thrown(INDEX, () -> get.of(x, 1));
            });
            promise(36 + k, "if there is no comparison", () -> {
                ScanCompare x = new ScanCompare(8, 8);
                thrown(STATE, () -> get.of(x, 0), () -> get.of(x, -1), () -> get.of(x, 99));
            });
        }
        promise(34, "Returns the number of regions.", () -> {
            ScanCompare x = plain(64, 64);
            x.compare();
            due(x.regions(), 0);
            for (int y = 0; y < 64; y += 4) {
                x.setRow(1, y + 3, (y & 4) == 0 ? 0x8080808080808080L : 0x0808080808080808L);
            }
            x.compare();
            due(x.regions(), 128);
            due(x.regionRight(127), 59);
            x.setRow(1, 63, -1L);
            x.compare();
            due(x.regions(), 113);
            x.fill(1, 0, 0, 64, 64, true);
            x.compare();
            due(x.regions(), 1);
        });
    }

    // ---- changes, report

    private static void changeBounds() {
        Get[] gets = {ScanCompare::changeKind, ScanCompare::changeRegion, ScanCompare::changeTarget, ScanCompare::moveX,
            ScanCompare::moveY, ScanCompare::changePixels, ScanCompare::changeLine};
        int[][] answers = {{1, 3, 2}, {0, 1, 3}, {-1, 2, -1}, {0, -16, 0}, {0, 16, 0}, {9, 8, 25}, {0, 0, 0}};
        for (int k = 0; k < gets.length; k++) {
            Get get = gets[k];
            String due = answers[k][0] + " " + answers[k][1] + " " + answers[k][2];
            int kind = k;
            promise(43 + k, "if there is no such change", () -> {
                ScanCompare x = compared();
                due(get.of(x, 0) + " " + get.of(x, 1) + " " + get.of(x, 2), due);
                thrown(INDEX, () -> get.of(x, 3), () -> get.of(x, -1), () -> get.of(x, LOW), () -> get.of(x, HIGH));
                // A region is no change, and what is hidden is none either.
                due(x.regions(), 4);
                x.learn(0);
                configure(x, "stamps=hide");
                x.compare();
                due(get.of(x, 0), answers[kind][1]);
                thrown(INDEX, () -> get.of(x, 2));
                x.copy(0, 1, 0, 0);
                x.compare();
                thrown(INDEX, () -> get.of(x, 0), () -> get.of(x, -1));
            });
            promise(43 + k, "if there is no comparison", () -> {
                ScanCompare x = new ScanCompare(8, 8);
                thrown(STATE, () -> get.of(x, 0), () -> get.of(x, -1), x::changes);
            });
        }
    }

    private static void moves() {
        promise(42, "Returns the number of changes.", () -> {
            ScanCompare x = compared();
            due(x.changes(), 3);
            x.learn(0);
            x.learn(1);
            x.learn(2);
            configure(x, "stamps=hide");
            due(x.changes(), 3);
            x.compare();
            due(x.changes(), 1);
            x.copy(0, 1, 0, 0);
            x.compare();
            due(x.changes(), 0);
        });
        promise(45, "-1 if the change is no move.", () -> {
            ScanCompare x = plain(32, 32);
            dots(x, 0, 1, 1);
            dots(x, 1, 3, 3, 9, 1, 10, 1);
            x.compare();
            due(changesOf(x), "*0>0 +1 ");
            due(x.changeTarget(0) + " " + x.changeTarget(1), "0 -1");
        });
        promise(46, "the left column of the box of its added part minus that of its removed part; 0 for other"
            + " changes.", () -> {
            ScanCompare x = plain(64, 64);
            x.setRow(0, 0, 1L);
            x.setRow(1, 40, 1L << 63);
            x.compare();
            due(x.moveX(0) + "," + x.moveY(0), "63,40");
            x.copy(0, 2, 0, 0);
            x.copy(1, 0, 0, 0);
            x.copy(2, 1, 0, 0);
            x.compare();
            due(x.moveX(0) + "," + x.moveY(0), "-63,-40");
            configure(x, "pair=2");
            x.compare();
            due(x.moveX(0) + "," + x.moveX(1), "0,0");
        });
        promise(47, "the top row of the box of its added part minus that of its removed part; 0 for other changes.",
            () -> {
            ScanCompare x = plain(64, 64);
            dots(x, 0, 5, 0);
            dots(x, 1, 5, 63);
            x.compare();
            due(x.moveY(0) + "," + x.moveX(0), "63,0");
            x.flip(0, 1);
            x.flip(1, 1);
            x.compare();
            due(x.moveY(0) + "," + x.moveX(0), "-63,0");
            configure(x, "pair=2");
            x.compare();
            due(x.moveY(0) + "," + x.moveY(1), "0,0");
        });
        promise(48, "Returns the number of pixels of the part of a change (for a move, of either part).", () -> {
            ScanCompare x = plain(64, 64);
            dots(x, 0, 5, 0);
            x.compare();
            due(x.changePixels(0), 1);
            x.fill(0, 0, 0, 64, 64, true);
            x.compare();
            due(x.changePixels(0), 4096);
            x.fill(0, 0, 0, 64, 64, false);
            x.fill(0, 0, 0, 5, 5, true);
            x.fill(1, 40, 40, 5, 5, true);
            x.compare();
            due(x.changes() + " " + x.changePixels(0), "1 25");
        });
    }

    private static void changeLines() {
        promise(49, "Returns the number of the text line of O (of A for an addition) that contains the top row of"
            + " the box of the part (of the removed part for a move).", () -> {
            ScanCompare x = plain(32, 64);
            for (int y = 0; y < 64; y += 2) {
                dots(x, 0, 0, y);
            }
            x.copy(0, 1, 0, 0);
            x.fill(1, 0, 0, 1, 1, false);
            x.compare();
            due(x.changeLine(0), 0);
            x.fill(1, 0, 62, 1, 1, false);
            x.compare();
            due(x.changeLine(0) + " " + x.changeLine(1), "0 31");
            // An addition that joins lines of the aligned scan.
            x.copy(0, 1, 0, 0);
            x.fill(1, 20, 10, 2, 5, true);
            x.fill(1, 20, 61, 2, 1, true);
            configure(x, "jitter=0");
            x.compare();
            due(changesOf(x), "+0 +1 ");
            due(x.changeLine(0) + " " + x.changeLine(1), "5 28");
        });
        promise(49, "the text line of O (of A for an addition)", () -> {
            // The lines are those of the cleaned pages, and of the scan as it is aligned.
            ScanCompare x = new ScanCompare(32, 32);
            configure(x, "block=4;noise=0;jitter=0;speckle=2;search=4");
            x.fill(0, 8, 10, 8, 8, true);
            x.copy(0, 1, 0, -4);
            dots(x, 0, 0, 0, 0, 2, 0, 4);
            dots(x, 1, 31, 31);
            x.fill(0, 28, 22, 2, 2, true);
            x.fill(1, 0, 22, 2, 1, true);
            x.compare();
            due(report(x), "shift 0,-4 skew 0\n2 changes\nremoved 4 at 28,22 size 2x2\nadded 2 at 0,26 size 2x1\n");
            due(x.changeLine(0) + " " + x.changeLine(1), "1 1");
        });
    }

    private static void reports() {
        promise(50, "The second line is the number of changes and \" changes\" (\" change\" if the number is 1).",
            () -> {
            ScanCompare x = plain(16, 16);
            x.compare();
            due(report(x), "shift 0,0 skew 0\n0 changes\n");
            dots(x, 1, 15, 15);
            x.compare();
            due(report(x), "shift 0,0 skew 0\n1 change\nadded 1 at 15,15 size 1x1\n");
            dots(x, 0, 0, 0, 1, 0);
            x.compare();
            due(report(x), "shift 0,0 skew 0\n2 changes\nremoved 2 at 0,0 size 2x1\nadded 1 at 15,15 size 1x1\n");
        });
        promise(50, "The first line is \"shift \", dx, \",\", dy, \" skew \", s, and then \" turned\" if t is 1.",
            () -> {
            ScanCompare x = corner();
            configure(x, "turn=on");
            x.copy(0, 1, 0, 0);
            x.flip(1, 2);
            x.copy(1, 1, 16, 10);
            x.compare();
            due(report(x), "shift -16,-10 skew 0 turned\n0 changes\n");
            ScanCompare y = new ScanCompare(64, 64);
            configure(y, "skew=2;search=0");
            y.fill(1, 30, 0, 1, 64, true);
            for (int k = 0; k < 64; k++) {
                dots(y, 0, 30 - Math.floorDiv(-2 * k, 16), k);
            }
            y.compare();
            due(report(y), "shift 0,0 skew -2\n0 changes\n");
        });
        promise(50, "All numbers are decimal without leading zeros, with a minus sign if they are negative.", () -> {
            ScanCompare x = plain(64, 64);
            int[][] sizes = {{1, 1}, {9, 1}, {10, 1}, {10, 10}, {11, 9}, {40, 25}, {64, 64}, {33, 31}};
            for (int[] size : sizes) {
                x.fill(1, 0, 0, 64, 64, false);
                x.fill(1, 0, 0, size[0], size[1], true);
                x.compare();
                due(report(x), "shift 0,0 skew 0\n1 change\nadded " + size[0] * size[1] + " at 0,0 size "
                    + size[0] + "x" + size[1] + "\n");
            }
            ScanCompare y = corner();
            y.copy(0, 1, -10, -1);
            y.compare();
            due(report(y), "shift -10,-1 skew 0\n0 changes\n");
        });
        promise(50, "If the shape of the part was that of a known stamp when the pages were compared, \" stamp \""
            + " and the number that the stamp had then follow.", () -> {
            ScanCompare x = compared();
            x.learn(2);
            x.learn(1);
            x.learn(0);
            due(report(x).indexOf("stamp"), -1);
            x.compare();
            String stamped = "shift 0,0 skew 0\n3 changes\nremoved 9 at 1,1 size 3x3 stamp 2\n"
                + "moved 8 from 17,1 to 1,17 size 4x2 stamp 1\nadded 25 at 18,17 size 5x5 stamp 0\n";
            due(report(x), stamped);
            x.forgetStamp(0);
            due(report(x), stamped);
            x.forgetStamp(0);
            x.forgetStamp(0);
            due(report(x), stamped);
            x.compare();
            due(report(x).indexOf("stamp"), -1);
        });
        promise(50, "Returns its code; -1 if the report has no such character.", () -> {
            ScanCompare x = new ScanCompare(8, 8);
            x.compare();
            due(x.reportChar(0) + " " + x.reportChar(16) + " " + x.reportChar(26) + " " + x.reportChar(27),
                "115 10 10 -1");
            due(x.reportChar(HIGH), -1);
        });
        promise(50, "if i is negative", () -> {
            ScanCompare x = new ScanCompare(8, 8);
            x.compare();
            thrown(INDEX, () -> x.reportChar(-1), () -> x.reportChar(LOW));
        });
        promise(50, "if there is no comparison", () -> {
            ScanCompare x = new ScanCompare(8, 8);
            thrown(STATE, () -> x.reportChar(0), () -> x.reportChar(-1), () -> x.reportChar(HIGH));
        });
    }

    // ---- stamps, advice

    /** Eight bars of the widths 1 to 8, which are changes 0 to 7. */
    private static ScanCompare bars() {
        ScanCompare x = plain(64, 64);
        for (int k = 0; k < 8; k++) {
            x.fill(1, 0, 8 * k, k + 1, 1, true);
        }
        x.compare();
        return x;
    }

    private static void learning() {
        promise(51, "if the shape is that of a known stamp already, the number of that one.", () -> {
            ScanCompare x = bars();
            due(x.learn(5) + " " + x.learn(5) + " " + x.learn(0) + " " + x.learn(5) + " " + x.learn(0), "0 0 1 0 1");
            due(x.forgetStamp(0), 1);
            due(x.learn(0) + " " + x.learn(5), "0 1");
        });
        promise(51, "if there is no such change (also if there is no comparison)", () -> {
            ScanCompare x = bars();
            thrown(INDEX, () -> x.learn(8), () -> x.learn(-1), () -> x.learn(LOW), () -> x.learn(HIGH));
            for (int k = 0; k < 7; k++) {
                x.learn(k);
            }
            thrown(INDEX, () -> x.learn(8), () -> x.learn(-1));
            ScanCompare fresh = new ScanCompare(8, 8);
            thrown(INDEX, () -> fresh.learn(0), () -> fresh.learn(-1));
            fresh.compare();
            thrown(INDEX, () -> fresh.learn(0));
        });
        promise(51, "if the shape is not known, and there are 7 stamps already", () -> {
            ScanCompare x = bars();
            for (int k = 0; k < 7; k++) {
                due(x.learn(k), k);
            }
            thrown(STATE, () -> x.learn(7), () -> x.learn(7));
            for (int k = 0; k < 7; k++) {
                due(x.learn(k), k);
            }
            due(x.forgetStamp(6), 6);
            due(x.learn(7), 6);
            thrown(STATE, () -> x.learn(6));
        });
    }

    private static void stampBounds() {
        promise(52, "-1 if there is none.", () -> {
            ScanCompare x = bars();
            due(x.stampOf(0) + " " + x.stampOf(7), "-1 -1");
            x.learn(7);
            due(x.stampOf(0) + " " + x.stampOf(7), "-1 0");
            // The stamps are those of now, not of the comparison.
            x.forgetStamp(0);
            due(x.stampOf(7), -1);
        });
        promise(52, "if there is no such change", () -> {
            ScanCompare x = bars();
            thrown(INDEX, () -> x.stampOf(8), () -> x.stampOf(-1), () -> x.stampOf(LOW), () -> x.stampOf(HIGH));
        });
        promise(52, "if there is no comparison", () -> {
            ScanCompare x = new ScanCompare(8, 8);
            thrown(STATE, () -> x.stampOf(0), () -> x.stampOf(-1));
        });
        promise(53, "Forgets a known stamp; the numbers of those after it decrease by 1.", () -> {
            for (int gone = 0; gone < 7; gone++) {
                ScanCompare x = bars();
                for (int k = 0; k < 7; k++) {
                    x.learn(k);
                }
                due(x.forgetStamp(gone), 6);
                for (int k = 0; k < 8; k++) {
                    due(x.stampOf(k), k == gone || k == 7 ? -1 : k < gone ? k : k - 1);
                }
                due(x.learn(7) + " " + x.stampOf(7), "6 6");
                due(x.forgetStamp(0), 6);
                due(x.learn(gone), 6);
            }
        });
        promise(53, "if there is no such stamp", () -> {
            ScanCompare x = bars();
            thrown(INDEX, () -> x.forgetStamp(0), () -> x.forgetStamp(-1));
            x.learn(0);
            thrown(INDEX, () -> x.forgetStamp(1), () -> x.forgetStamp(-1), () -> x.forgetStamp(LOW),
                () -> x.forgetStamp(HIGH));
            due(x.forgetStamp(0), 0);
            thrown(INDEX, () -> x.forgetStamp(0));
            for (int k = 0; k < 7; k++) {
                x.learn(k);
            }
            thrown(INDEX, () -> x.forgetStamp(7));
            due(x.forgetStamp(6), 6);
            thrown(INDEX, () -> x.forgetStamp(6));
        });
    }

    private static void accepting() {
        promise(54, "the pixels of a removed part become blank, those of an added part become ink", () -> {
            ScanCompare x = plain(64, 64);
            dots(x, 0, 0, 0, 63, 0, 10, 10, 12, 12);
            dots(x, 1, 0, 63, 63, 63, 11, 11, 30, 30, 32, 32);
            x.compare();
            due(changesOf(x), "*0>2 *1>4 *2>5 *3>6 +7 ");
            int sum = 0;
            for (int c = 0; c < x.changes(); c++) {
                sum += x.accept(c);
            }
            due(sum, 9);
            for (int y = 0; y < 64; y++) {
                due(x.row(0, y), x.row(1, y));
            }
            due(x.compare(), 0);
        });
        promise(54, "This is an edit. The results of the comparison stay.", () -> {
            ScanCompare x = compared();
            String before = report(x);
            for (int k = 0; k < 9; k++) {
                x.accept(k % 3);
            }
            due(report(x), before);
            due(x.undo(), 7);
        });
        promise(54, "Returns the number of pixels of page 0 that change.", () -> {
            ScanCompare x = compared();
            due(x.accept(0) + " " + x.accept(0), "9 0");
            due(x.accept(1) + " " + x.accept(1), "16 0");
            x.fill(0, 18, 17, 2, 2, true);
            due(x.accept(2) + " " + x.accept(2), "21 0");
            x.fill(0, 0, 0, 32, 32, false);
            due(x.accept(0) + " " + x.accept(1) + " " + x.accept(2), "0 8 25");
            x.fill(0, 0, 0, 32, 32, true);
            due(x.accept(2) + " " + x.accept(1) + " " + x.accept(0), "0 8 9");
        });
        promise(54, "if there is no such change", () -> {
            ScanCompare x = compared();
            thrown(INDEX, () -> x.accept(3), () -> x.accept(-1), () -> x.accept(LOW), () -> x.accept(HIGH));
            x.copy(0, 1, 0, 0);
            x.compare();
            thrown(INDEX, () -> x.accept(0));
        });
        promise(54, "if there is no comparison", () -> {
            ScanCompare x = new ScanCompare(8, 8);
            thrown(STATE, () -> x.accept(0), () -> x.accept(-1), x::undo);
        });
    }

    private static void leastNoise() {
        promise(55, "Finds the least value of noise, 0 to 256, with which there would be at most a given number of"
            + " regions", () -> {
            ScanCompare blank = new ScanCompare(8, 8);
            blank.compare();
            due(blank.leastNoise(0), 0);
            ScanCompare full = plain(16, 16);
            configure(full, "block=16");
            full.fill(0, 0, 0, 16, 16, true);
            for (int pixels = 256; pixels >= 254; pixels--) {
                full.setRow(1, 0, (1L << (256 - pixels)) - 1);
                full.compare();
                due(full.leastNoise(0) + " " + full.leastNoise(1), pixels + " 0");
            }
            // More noise can part a region: the numbers of regions are 2, 1, 2 and 0, from noise 0, 1, 2 and 9 on.
            ScanCompare x = plain(32, 32);
            x.fill(1, 0, 0, 3, 3, true);
            x.fill(1, 4, 0, 2, 1, true);
            x.fill(1, 8, 0, 3, 3, true);
            dots(x, 1, 20, 20);
            x.compare();
            due(x.regions(), 2);
            due(x.leastNoise(2) + " " + x.leastNoise(1) + " " + x.leastNoise(0), "0 1 9");
            configure(x, "noise=2");
            x.compare();
            due(x.regions() + " " + x.leastNoise(1), "2 1");
        });
        promise(55, "if the blocks had the differences of the latest comparison.", () -> {
            ScanCompare x = plain(32, 32);
            x.fill(1, 0, 0, 3, 3, true);
            x.compare();
            x.fill(1, 0, 0, 32, 32, false);
            configure(x, "block=16;noise=20");
            due(x.leastNoise(0) + " " + x.regions() + " " + x.regionAt(3, 3) + " " + x.regionAt(4, 3), "9 1 0 -1");
        });
        promise(55, "if count is negative", () -> {
            ScanCompare x = new ScanCompare(8, 8);
            x.compare();
            thrown(ARGUMENT, () -> x.leastNoise(-1), () -> x.leastNoise(LOW));
            due(x.leastNoise(0) + x.leastNoise(HIGH), 0);
        });
        promise(55, "if there is no comparison", () -> {
            ScanCompare x = new ScanCompare(8, 8);
            thrown(STATE, () -> x.leastNoise(0), () -> x.leastNoise(-1));
        });
    }
}
