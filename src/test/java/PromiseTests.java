/** At least one test for each promise of the document: ordinary inputs, edges and wrong inputs. */
public final class PromiseTests extends Checks {
    public static void main(String[] args) {
        Object[][] tests = {
            {"promise 1", (Runnable) PromiseTests::newObject},
            {"promise 2", (Runnable) PromiseTests::row},
            {"promise 3", (Runnable) PromiseTests::setRow},
            {"promise 4", (Runnable) PromiseTests::fill},
            {"promise 5", (Runnable) PromiseTests::copy},
            {"promise 6", (Runnable) PromiseTests::merge},
            {"promise 7", (Runnable) PromiseTests::flip},
            {"promise 8", (Runnable) PromiseTests::despeckle},
            {"promise 9", (Runnable) PromiseTests::pasting},
            {"promise 9, errors", (Runnable) PromiseTests::pasteErrors},
            {"promise 10", (Runnable) PromiseTests::components},
            {"promises 11 to 13", (Runnable) PromiseTests::lines},
            {"promise 14", (Runnable) PromiseTests::words},
            {"promise 15", (Runnable) PromiseTests::ink},
            {"promise 16", (Runnable) PromiseTests::fingerprint},
            {"promise 17", (Runnable) PromiseTests::undo},
            {"promise 17, edits", (Runnable) PromiseTests::undoOfEachEdit},
            {"promises 18 and 19", (Runnable) PromiseTests::text},
            {"promise 20", (Runnable) PromiseTests::configuring},
            {"promise 20, errors", (Runnable) PromiseTests::configureErrors},
            {"promise 21", (Runnable) PromiseTests::settings},
            {"promise 22", (Runnable) PromiseTests::configChars},
            {"promises 23 and 24", (Runnable) PromiseTests::masks},
            {"promise 25", (Runnable) PromiseTests::comparing},
            {"promise 25, cleaning", (Runnable) PromiseTests::cleaning},
            {"promises 26 and 27", (Runnable) PromiseTests::shifts},
            {"promises 26 and 27, ties", (Runnable) PromiseTests::shiftTies},
            {"promise 28", (Runnable) PromiseTests::skews},
            {"promise 29", (Runnable) PromiseTests::turns},
            {"promises 30 to 32", (Runnable) PromiseTests::mismatches},
            {"promise 33", (Runnable) PromiseTests::blocks},
            {"promise 33, jitter", (Runnable) PromiseTests::jitter},
            {"promises 34 and 35", (Runnable) PromiseTests::regions},
            {"promises 36 to 41", (Runnable) PromiseTests::boxes},
            {"promises 36 and 37, order", (Runnable) PromiseTests::readingOrder},
            {"promises 42 to 48", (Runnable) PromiseTests::changes},
            {"promises 42 to 48, pairs", (Runnable) PromiseTests::pairs},
            {"promise 49", (Runnable) PromiseTests::changeLines},
            {"promise 50", (Runnable) PromiseTests::reports},
            {"promises 51 to 53", (Runnable) PromiseTests::stamps},
            {"promises 51 to 53, hidden", (Runnable) PromiseTests::hiddenStamps},
            {"promise 54", (Runnable) PromiseTests::accepting},
            {"promise 55", (Runnable) PromiseTests::leastNoise},
            {"promises 26 to 55, no comparison", (Runnable) PromiseTests::noComparison},
            {"promises 26 to 55, results stay", (Runnable) PromiseTests::resultsStay},
            {"examples", (Runnable) PromiseTests::examples},
        };
        for (Object[] test : tests) {
            title = (String) test[0];
            ((Runnable) test[1]).run();
        }
        end("all promises hold");
    }

    private static void newObject() {
        ScanCompare small = new ScanCompare(LOW, 7);
        due(small.fill(0, 0, 0, 99, 99, true), 64);
        due(small.row(0, 7), 255L);
        thrown(INDEX, () -> small.row(0, 8));
        ScanCompare large = new ScanCompare(HIGH, 65);
        due(large.fill(3, 0, 0, 99, 99, true), 4096);
        due(large.row(3, 63), -1L);
        thrown(INDEX, () -> large.row(0, 64));
        ScanCompare odd = new ScanCompare(9, 63);
        for (int p = 0; p < 4; p++) {
            due(odd.ink(p, 0, 0, 64, 64), 0);
        }
        due(odd.fill(2, 0, 0, 64, 64, true), 9 * 63);
        due(odd.clearText(), 0);
        due(odd.configChar(0), -1);
        due(odd.addMask(0, 0, 1, 1), 1);
        thrown(INDEX, () -> odd.forgetStamp(0));
        thrown(STATE, odd::changes);
    }

    private static void row() {
        ScanCompare x = new ScanCompare(10, 12);
        x.fill(1, 2, 3, 3, 1, true);
        due(x.row(1, 3), 28L);
        due(x.row(1, 2), 0L);
        due(x.row(0, 3), 0L);
        due(x.row(3, 11), 0L);
        thrown(INDEX, () -> x.row(-1, 0));
        thrown(INDEX, () -> x.row(4, 0));
        thrown(INDEX, () -> x.row(0, -1));
        thrown(INDEX, () -> x.row(0, 12));
        thrown(INDEX, () -> x.row(HIGH, LOW));
    }

    private static void setRow() {
        ScanCompare x = new ScanCompare(10, 12);
        due(x.setRow(2, 11, -1L), 10);
        due(x.row(2, 11), 1023L);
        due(x.setRow(2, 11, 1024L + 6L), 8);
        due(x.row(2, 11), 6L);
        due(x.setRow(2, 11, 6L), 0);
        due(x.undo(), 2);
        thrown(INDEX, () -> x.setRow(4, 0, 1));
        thrown(INDEX, () -> x.setRow(-1, 0, 1));
        thrown(INDEX, () -> x.setRow(0, 12, 1));
        thrown(INDEX, () -> x.setRow(0, -1, 1));
        due(x.undo(), 1);
    }

    private static void fill() {
        ScanCompare x = new ScanCompare(10, 12);
        due(x.fill(0, 2, 3, 4, 5, true), 20);
        due(x.fill(0, 3, 4, 4, 5, true), 8);
        due(x.fill(0, 2, 3, 2, 1, false), 2);
        due(x.row(0, 3), 48L);
        due(x.fill(1, -2, -2, 4, 4, true), 4);
        due(x.fill(1, 8, 10, HIGH, HIGH, true), 4);
        due(x.fill(1, LOW, LOW, HIGH, HIGH, true), 0);
        due(x.fill(1, HIGH, HIGH, HIGH, HIGH, true), 0);
        due(x.fill(1, -5, -5, HIGH, HIGH, true), 112);
        due(x.fill(2, 3, 3, 0, 5, true), 0);
        due(x.fill(2, 3, 3, 5, 0, true), 0);
        thrown(INDEX, () -> x.fill(4, 0, 0, -1, 1, true));
        thrown(INDEX, () -> x.fill(-1, 0, 0, 1, 1, true));
        thrown(ARGUMENT, () -> x.fill(0, 0, 0, -1, 1, true));
        thrown(ARGUMENT, () -> x.fill(0, 0, 0, 1, -1, true));
        due(x.ink(0, 0, 0, 64, 64), 26);
    }

    private static void copy() {
        ScanCompare x = new ScanCompare(10, 12);
        x.fill(0, 2, 3, 4, 5, true);
        due(x.copy(0, 1, 5, -4), 12);
        due(x.row(1, 0), 896L);
        due(x.row(1, 3), 896L);
        due(x.row(1, 4), 0L);
        due(x.copy(0, 0, 1, 1), 16);
        due(x.row(0, 4), 120L);
        due(x.row(0, 3), 0L);
        due(x.copy(0, 0, -1, -1), 16);
        due(x.row(0, 3), 60L);
        due(x.copy(2, 1, 0, 0), 12);
        due(x.copy(0, 3, HIGH, 0), 0);
        due(x.copy(0, 3, 0, LOW), 0);
        due(x.copy(0, 3, LOW, HIGH), 0);
        due(x.copy(0, 3, 0, 11), 0);
        due(x.copy(0, 0, 64, 0), 20);
        thrown(INDEX, () -> x.copy(4, 0, 0, 0));
        thrown(INDEX, () -> x.copy(0, 4, 0, 0));
        thrown(INDEX, () -> x.copy(-1, 0, 0, 0));
        thrown(INDEX, () -> x.copy(0, -1, 0, 0));
        ScanCompare wide = new ScanCompare(64, 8);
        wide.setRow(0, 0, -1L);
        due(wide.copy(0, 1, 63, 7), 1);
        due(wide.row(1, 7), 1L << 63);
        due(wide.copy(0, 1, -63, 0), 2);
        due(wide.row(1, 0), 1L);
        due(wide.copy(0, 1, -64, 0), 1);
    }

    private static void merge() {
        ScanCompare x = new ScanCompare(8, 8);
        x.setRow(0, 0, 255);
        x.setRow(1, 0, 0b00001111);
        x.setRow(2, 0, 0b00110011);
        x.setRow(3, 0, 0b01010101);
        due(x.merge(0), 4);
        due(x.row(0, 0), (long) 0b00010111);
        due(x.merge(2), 2);
        due(x.row(2, 0), (long) 0b00010111);
        due(x.row(1, 0), 15L);
        thrown(INDEX, () -> x.merge(4));
        thrown(INDEX, () -> x.merge(-1));
        due(x.undo(), 5);
        due(x.row(2, 0), (long) 0b00110011);
    }

    private static void flip() {
        ScanCompare x = new ScanCompare(10, 9);
        x.fill(0, 1, 0, 3, 2, true);
        due(x.flip(0, 0), 12);
        due(x.row(0, 0), 448L);
        due(x.flip(0, 1), 12);
        due(x.row(0, 0), 0L);
        due(x.row(0, 7), 448L);
        due(x.row(0, 8), 448L);
        due(x.flip(0, 2), 12);
        due(x.row(0, 1), 14L);
        due(x.flip(1, 2), 0);
        thrown(INDEX, () -> x.flip(4, 3));
        thrown(INDEX, () -> x.flip(-1, 0));
        thrown(ARGUMENT, () -> x.flip(0, 3));
        thrown(ARGUMENT, () -> x.flip(0, -1));
        due(x.undo(), 4);
        ScanCompare wide = new ScanCompare(64, 64);
        wide.setRow(0, 0, 1L);
        due(wide.flip(0, 2), 2);
        due(wide.row(0, 63), 1L << 63);
    }

    private static void despeckle() {
        ScanCompare x = new ScanCompare(64, 16);
        draw(x, 0,
            "#..##....#",
            "..#......#",
            ".........#",
            "##.......#",
            "##......#.");
        due(x.components(0), 4);
        due(x.despeckle(0, 0), 0);
        due(x.despeckle(0, 1), 0);
        due(x.despeckle(0, 2), 1);
        due(x.row(0, 0), 512L + 24L);
        due(x.despeckle(0, 4), 1);
        due(x.row(0, 1), 512L);
        due(x.row(0, 3), 512L + 3L);
        due(x.despeckle(0, 5), 1);
        due(x.row(0, 3), 512L);
        due(x.despeckle(0, 64), 1);
        due(x.undo(), 7);
        due(x.row(0, 4), 256L);
        x.fill(1, 0, 0, 64, 1, true);
        due(x.despeckle(1, 64), 0);
        thrown(INDEX, () -> x.despeckle(4, 65));
        thrown(INDEX, () -> x.despeckle(-1, 1));
        thrown(ARGUMENT, () -> x.despeckle(0, 65));
        thrown(ARGUMENT, () -> x.despeckle(0, -1));
        due(x.undo(), 7);
    }

    private static void pasting() {
        ScanCompare x = new ScanCompare(12, 10);
        due(paste(x, 0, 1, 2, "3o2b o!"), -5);
        due(x.clearText(), 7);
        due(paste(x, 0, 1, 2, "3o2bo$o2$12o!"), 5 + 11);
        due(x.row(0, 2), 78L);
        due(x.row(0, 3), 2L);
        due(x.row(0, 4), 0L);
        due(x.row(0, 5), 4094L);
        due(x.clearText(), 0);
        due(paste(x, 0, 0, 2, "b2bo64b!"), 3);
        due(x.row(0, 2), 8L);
        due(x.undo(), 1);
        due(x.row(0, 2), 78L);
        due(paste(x, 1, -2, -1, "64o$4o!"), 2);
        due(x.row(1, 0), 3L);
        due(paste(x, 1, HIGH, HIGH, "64o64o$64o!"), 0);
        due(paste(x, 1, LOW, LOW, "64o64o$64o!"), 0);
        due(paste(x, 1, 0, 0, "!"), 0);
        due(x.undo(), 4);
        due(paste(x, 2, 3, 0, "01o09b1o!"), 1);
        due(x.row(2, 0), 8L);
        due(paste(x, 2, 0, 0, "2oob!"), 4);
        type(x, "x");
        thrown(INDEX, () -> x.paste(4, 0, 0));
        thrown(INDEX, () -> x.paste(-1, 0, 0));
        due(x.clearText(), 1);
    }

    private static void pasteErrors() {
        ScanCompare x = new ScanCompare(8, 8);
        String[] texts = {"", "o", "3", "o12", "65o!", "0o!", "00o!", "99", "100o!", "o100", "1234!", "3!", "o3!", "0!",
            "o!!", "o! ", "o!o!", "a!", "oB!", "3 o!", "3a", "66a", "$;", "64$64b1", "!1", "o65", "123", "~"};
        int[] places = {0, 1, 1, 3, 0, 0, 0, 0, 2, 3, 2, 1, 2, 0,
            2, 2, 2, 0, 1, 1, 1, 0, 1, 7, 1, 1, 2, 0};
        for (int i = 0; i < texts.length; i++) {
            title = "promise 9, errors, " + texts[i];
            due(paste(x, 0, 0, 0, texts[i]), -1 - places[i]);
            due(x.clearText(), texts[i].length());
        }
        thrown(STATE, x::undo);
        due(x.ink(0, 0, 0, 8, 8), 0);
    }

    private static void components() {
        ScanCompare x = new ScanCompare(64, 64);
        due(x.components(0), 0);
        for (int y = 0; y < 64; y += 2) {
            x.setRow(0, y, 0x5555555555555555L);
        }
        due(x.components(0), 32 * 32);
        for (int y = 0; y < 64; y++) {
            x.setRow(1, y, (y & 1) == 0 ? 0x5555555555555555L : 0xAAAAAAAAAAAAAAAAL);
        }
        due(x.components(1), 1);
        for (int y = 0; y < 64; y++) {
            x.setRow(2, y, (y & 1) == 0 ? -1L : (y & 2) == 0 ? 1L << 63 : 1L);
        }
        due(x.components(2), 1);
        x.setRow(3, 0, 1L);
        x.setRow(3, 1, 1L << 63);
        due(x.components(3), 2);
        thrown(INDEX, () -> x.components(4));
        thrown(INDEX, () -> x.components(-1));
    }

    private static void lines() {
        ScanCompare x = new ScanCompare(8, 12);
        due(x.lines(0), 0);
        thrown(INDEX, () -> x.lineTop(0, 0));
        thrown(INDEX, () -> x.lineBottom(0, 0));
        draw(x, 0, "#", "..#", "", "#", "", "", "#", "#", "#", "", "#", "#");
        due(x.lines(0), 4);
        int[] tops = {0, 3, 6, 10};
        int[] bottoms = {1, 3, 8, 11};
        for (int i = 0; i < 4; i++) {
            due(x.lineTop(0, i), tops[i]);
            due(x.lineBottom(0, i), bottoms[i]);
        }
        thrown(INDEX, () -> x.lineTop(0, 4));
        thrown(INDEX, () -> x.lineTop(0, -1));
        thrown(INDEX, () -> x.lineTop(1, 0));
        thrown(INDEX, () -> x.lineTop(4, 0));
        thrown(INDEX, () -> x.lineBottom(0, 4));
        thrown(INDEX, () -> x.lineBottom(0, -1));
        thrown(INDEX, () -> x.lineBottom(-1, 0));
        thrown(INDEX, () -> x.lines(4));
        thrown(INDEX, () -> x.lines(-1));
    }

    private static void words() {
        ScanCompare x = new ScanCompare(64, 8);
        draw(x, 0, "#.#..#", "", "#.#..#", "...........#");
        due(x.words(0, 0, 1), 3);
        due(x.words(0, 0, 2), 2);
        due(x.words(0, 0, 3), 1);
        due(x.words(0, 1, 1), 4);
        due(x.words(0, 1, 5), 2);
        due(x.words(0, 1, 6), 1);
        x.setRow(1, 0, 1L | 1L << 63);
        due(x.words(1, 0, 62), 2);
        due(x.words(1, 0, 63), 1);
        due(x.words(1, 0, 64), 1);
        thrown(INDEX, () -> x.words(4, 0, 0));
        thrown(INDEX, () -> x.words(0, 2, 0));
        thrown(INDEX, () -> x.words(0, -1, 65));
        thrown(ARGUMENT, () -> x.words(0, 0, 0));
        thrown(ARGUMENT, () -> x.words(0, 0, 65));
    }

    private static void ink() {
        ScanCompare x = new ScanCompare(10, 12);
        x.fill(1, 2, 3, 4, 5, true);
        due(x.ink(1, 0, 0, 10, 12), 20);
        due(x.ink(1, 3, 4, 2, 2), 4);
        due(x.ink(1, 5, 7, 9, 9), 1);
        due(x.ink(1, 6, 3, 4, 5), 0);
        due(x.ink(1, -100, -100, HIGH, HIGH), 20);
        due(x.ink(1, HIGH, HIGH, HIGH, HIGH), 0);
        due(x.ink(1, LOW, LOW, HIGH, HIGH), 0);
        due(x.ink(1, 3, 4, 0, 3), 0);
        due(x.ink(0, 0, 0, 10, 12), 0);
        thrown(INDEX, () -> x.ink(4, 0, 0, -1, 0));
        thrown(INDEX, () -> x.ink(-1, 0, 0, 1, 0));
        thrown(ARGUMENT, () -> x.ink(0, 0, 0, -1, 0));
        thrown(ARGUMENT, () -> x.ink(0, 0, 0, 0, LOW));
        thrown(STATE, () -> {
            x.undo();
            return x.undo();
        });
    }

    private static void fingerprint() {
        ScanCompare x = new ScanCompare(10, 8);
        long print = (17L * 31 + 10) * 31 + 8;
        for (int y = 0; y < 8; y++) {
            print *= 31;
        }
        due(x.fingerprint(0), print);
        x.setRow(0, 7, 5);
        due(x.fingerprint(0), print + 5);
        x.setRow(0, 6, 3);
        due(x.fingerprint(0), print + 5 + 3 * 31);
        due(x.fingerprint(3), print);
        thrown(INDEX, () -> x.fingerprint(4));
        thrown(INDEX, () -> x.fingerprint(-1));
    }

    private static void undo() {
        ScanCompare x = new ScanCompare(8, 8);
        thrown(STATE, x::undo);
        for (int i = 1; i <= 10; i++) {
            x.setRow(i % 4, 0, i);
        }
        due(x.row(1, 0), 9L);
        for (int i = 7; i >= 0; i--) {
            due(x.undo(), i);
        }
        due(x.row(0, 0), 0L);
        due(x.row(1, 0), 1L);
        due(x.row(2, 0), 2L);
        due(x.row(3, 0), 0L);
        thrown(STATE, x::undo);
        x.setRow(0, 0, 1);
        x.setRow(0, 0, 2);
        due(x.undo(), 1);
        x.setRow(0, 0, 3);
        due(x.undo(), 1);
        due(x.row(0, 0), 1L);
        due(x.undo(), 0);
        due(x.row(0, 0), 0L);
    }

    private static void undoOfEachEdit() {
        ScanCompare x = compared();
        long[] prints = new long[9];
        for (int k = 0; k < 8; k++) {
            prints[k] = x.fingerprint(0) * 31 + x.fingerprint(2);
            switch (k) {
                case 0: x.accept(0); break;
                case 1: x.flip(0, 0); break;
                case 2: x.copy(0, 2, 1, 1); break;
                case 3: x.merge(0); break;
                case 4: x.despeckle(2, 20); break;
                case 5: paste(x, 2, 0, 0, "9o!"); break;
                case 6: x.fill(0, 4, 4, 9, 9, true); break;
                default: x.setRow(2, 9, 77); break;
            }
        }
        // None of these is an edit.
        paste(x, 0, 0, 0, "9o");
        x.compare();
        x.learn(0);
        configure(x, "block=4");
        x.addMask(0, 0, 1, 1);
        for (int k = 7; k >= 0; k--) {
            due(x.undo(), k);
            due(x.fingerprint(0) * 31 + x.fingerprint(2), prints[k]);
        }
        due(x.setting(0), 4);
        due(x.removeMask(0), 0);
    }

    private static void text() {
        ScanCompare x = new ScanCompare(8, 8);
        due(x.clearText(), 0);
        due(x.type(32), 1);
        due(x.type(126), 2);
        thrown(ARGUMENT, () -> x.type(31));
        thrown(ARGUMENT, () -> x.type(127));
        due(x.clearText(), 2);
        for (int i = 1; i <= 80; i++) {
            due(x.type('o'), i);
        }
        thrown(STATE, () -> x.type('o'));
        thrown(ARGUMENT, () -> x.type(LOW));
        due(x.paste(0, 0, 0), -81);
        due(x.clearText(), 80);
        due(x.clearText(), 0);
    }

    private static void configuring() {
        ScanCompare x = new ScanCompare(8, 8);
        due(x.configure(), 0);
        due(configure(x, "block=16"), 1);
        due(x.clearText(), 0);
        due(x.setting(0), 16);
        due(configure(x, "noise=256;noise=000;jitter=02;speckle=9;search=016"), 5);
        due(x.setting(1), 0);
        due(x.setting(2), 2);
        due(x.setting(3), 9);
        due(x.setting(4), 16);
        due(configure(x, "skew=2;turn=on;order=columns;pair=99;stamps=hide"), 5);
        due(x.setting(5), 2);
        due(x.setting(6), 1);
        due(x.setting(7), 1);
        due(x.setting(8), 99);
        due(x.setting(9), 1);
        due(configure(x, "turn=on;turn=off;order=rows;stamps=keep"), 4);
        due(x.setting(6), 0);
        due(x.setting(7), 0);
        due(x.setting(9), 0);
        due(configure(x, "pair=5;pair=0"), -13);
        due(x.setting(8), 99);
        due(x.clearText(), 13);
        due(configure(x, "noise=256;block=4"), 2);
        due(x.setting(1), 256);
    }

    private static void configureErrors() {
        ScanCompare x = new ScanCompare(8, 8);
        String[] texts = {";", "=", "n", "noise", "noises=1", "noise =1", "noise;", "noise=", "noise=;", "noise=x",
            "noise=257", "noise=0001", "noise=1x", "noise=-1", "block=3", "block=17", "jitter=3", "speckle=10",
            "search=17", "skew=3", "pair=0", "pair=100", "turn=1", "turn=onn", "turn=rows", "order=0", "order=row",
            "stamps=hid", "stamps=keep2", "noise=1;", "noise=1;;", "noise=1 ;", "noise=1!", "noise=1;noise=1,",
            "noise=1; block=4", "Noise=1", "block4", "turn=On", "turn=", "noise=1=", "noise=12;block=1;x"};
        int[] places = {0, 0, 0, 5, 0, 5, 5, 6, 6, 6,
            6, 6, 6, 6, 6, 6, 7, 8,
            7, 5, 5, 5, 5, 5, 5, 6, 6,
            7, 7, 8, 8, 7, 7, 15,
            8, 0, 5, 5, 5, 7, 15};
        for (int i = 0; i < texts.length; i++) {
            title = "promise 20, errors, " + texts[i];
            due(configure(x, texts[i]), -1 - places[i]);
            due(x.clearText(), texts[i].length());
        }
        due(x.setting(1), 2);
        due(x.configChar(0), -1);
    }

    private static void settings() {
        ScanCompare x = new ScanCompare(8, 8);
        int[] initial = {8, 2, 1, 0, 8, 0, 0, 0, 4, 0};
        for (int i = 0; i < 10; i++) {
            due(x.setting(i), initial[i]);
        }
        thrown(INDEX, () -> x.setting(10));
        thrown(INDEX, () -> x.setting(-1));
    }

    private static void configChars() {
        ScanCompare x = new ScanCompare(8, 8);
        due(x.configChar(0), -1);
        due(x.configChar(HIGH), -1);
        thrown(INDEX, () -> x.configChar(-1));
        configure(x, "noise=007;turn=on");
        due(description(x), "noise=7;turn=on");
        configure(x, "block=4;noise=0;block=010");
        due(description(x), "noise=0;turn=on;block=10");
        configure(x, "order=columns;search=7;x");
        due(description(x), "noise=0;turn=on;block=10");
        configure(x, "turn=off;noise=256;order=rows;stamps=hide");
        due(description(x), "noise=256;turn=off;block=10;order=rows;stamps=hide");
        configure(x, "order=columns;stamps=keep;pair=99;skew=1;search=16;speckle=9;jitter=0");
        due(description(x), "noise=256;turn=off;block=10;order=columns;stamps=keep;pair=99;skew=1;search=16;"
            + "speckle=9;jitter=0");
        thrown(INDEX, () -> x.configChar(LOW));
    }

    private static void masks() {
        ScanCompare x = plain(12, 10);
        configure(x, "pair=99");
        x.fill(1, 1, 1, 1, 1, true);
        x.fill(1, 5, 5, 1, 1, true);
        x.fill(0, 9, 9, 1, 1, true);
        due(x.compare(), 3);
        due(x.addMask(0, 0, 12, 5), 1);
        due(x.compare(), 2);
        due(x.addMask(5, 5, 1, 1), 2);
        due(x.compare(), 1);
        due(x.addMask(9, 9, 3, 1), 3);
        due(x.compare(), 0);
        due(x.removeMask(0), 2);
        due(x.compare(), 1);
        due(x.regionLeft(0), 1);
        due(x.removeMask(1), 1);
        due(x.compare(), 2);
        due(x.changeKind(1), 1);
        thrown(INDEX, () -> x.removeMask(1));
        thrown(INDEX, () -> x.removeMask(-1));
        due(x.addMask(0, 0, 12, 10), 2);
        due(x.compare(), 0);
        int[][] bad = {{-1, 0, 1, 1}, {0, -1, 1, 1}, {0, 0, 0, 1}, {0, 0, 1, 0}, {0, 0, 13, 1}, {0, 0, 1, 11},
            {11, 9, 2, 1}, {11, 9, 1, 2}, {12, 0, 1, 1}, {0, 10, 1, 1}, {1, 1, HIGH, HIGH}, {HIGH, HIGH, 1, 1},
            {LOW, LOW, HIGH, HIGH}, {1, 1, LOW, 1}};
        for (int[] m : bad) {
            thrown(ARGUMENT, () -> x.addMask(m[0], m[1], m[2], m[3]));
        }
        for (int k = 3; k <= 6; k++) {
            due(x.addMask(11, 9, 1, 1), k);
        }
        thrown(STATE, () -> x.addMask(0, 0, 1, 1));
        thrown(ARGUMENT, () -> x.addMask(0, 0, 0, 1));
        for (int k = 5; k >= 0; k--) {
            due(x.removeMask(k), k);
        }
        thrown(INDEX, () -> x.removeMask(0));
    }

    private static void comparing() {
        ScanCompare x = three();
        long before = x.fingerprint(0) ^ x.fingerprint(1) * 31;
        due(x.compare(), 3);
        due(x.fingerprint(0) ^ x.fingerprint(1) * 31, before);
        due(x.compare(), 3);
        x.copy(1, 0, 0, 0);
        due(x.compare(), 0);
        due(x.regions(), 0);
        ScanCompare blank = new ScanCompare(8, 8);
        due(blank.compare(), 0);
        due(blank.shiftX(), 0);
        due(blank.shiftY(), 0);
    }

    private static void cleaning() {
        ScanCompare x = plain(16, 16);
        x.fill(0, 1, 1, 3, 1, true);
        x.fill(1, 9, 9, 2, 1, true);
        due(x.compare(), 2);
        due(x.mismatch(), 5);
        configure(x, "speckle=2");
        due(x.compare(), 2);
        configure(x, "speckle=3");
        due(x.compare(), 1);
        due(x.mismatch(), 3);
        configure(x, "speckle=4");
        due(x.compare(), 0);
        due(x.mismatch(), 0);
        due(x.ink(0, 0, 0, 16, 16) + x.ink(1, 0, 0, 16, 16), 5);
    }

    private static void shifts() {
        ScanCompare x = new ScanCompare(40, 40);
        draw(x, 0, "", "", "", "", "", "", "", "", "", "", "", "",
            "............####..#",
            "............#..#..#",
            "............##.#..##",
            "............#.##.#.#",
            "............####");
        for (int dy = -9; dy <= 9; dy += 3) {
            for (int dx = -9; dx <= 9; dx += 3) {
                x.copy(0, 1, dx, dy);
                x.compare();
                boolean within = Math.abs(dx) <= 8 && Math.abs(dy) <= 8;
                if (within) {
                    due(x.shiftX(), dx);
                    due(x.shiftY(), dy);
                }
                due(Math.abs(x.shiftX()) <= 8 && Math.abs(x.shiftY()) <= 8, true);
                due(x.mismatch() == 0, within);
            }
        }
        configure(x, "search=16");
        x.copy(0, 1, 16, -12);
        due(x.compare(), 0);
        due(x.shiftX(), 16);
        due(x.shiftY(), -12);
        configure(x, "search=3");
        x.copy(0, 1, -3, 3);
        x.compare();
        due(x.shiftX(), -3);
        due(x.shiftY(), 3);
        configure(x, "search=0");
        x.compare();
        due(x.shiftX(), 0);
        due(x.shiftY(), 0);
    }

    private static void shiftTies() {
        // A pixel with copies at equal distances in the scan: the least dy, then the least dx.
        ScanCompare x = new ScanCompare(32, 32);
        configure(x, "search=3");
        x.fill(0, 16, 16, 1, 1, true);
        x.fill(1, 15, 16, 1, 1, true);
        x.fill(1, 17, 16, 1, 1, true);
        x.compare();
        due(x.shiftX() + "," + x.shiftY(), "-1,0");
        x.fill(1, 16, 17, 1, 1, true);
        x.compare();
        due(x.shiftX() + "," + x.shiftY(), "-1,0");
        x.fill(1, 16, 15, 1, 1, true);
        x.compare();
        due(x.shiftX() + "," + x.shiftY(), "0,-1");
        x.fill(1, 0, 0, 32, 32, false);
        x.fill(1, 14, 18, 1, 1, true);
        x.fill(1, 19, 16, 1, 1, true);
        x.compare();
        due(x.shiftX() + "," + x.shiftY(), "3,0");
        // The coarse stage by itself: cells at equal distances.
        ScanCompare y = new ScanCompare(32, 32);
        y.fill(0, 16, 16, 4, 4, true);
        y.fill(1, 12, 16, 4, 4, true);
        y.fill(1, 20, 16, 4, 4, true);
        y.fill(1, 16, 12, 4, 4, true);
        y.fill(1, 16, 20, 4, 4, true);
        y.compare();
        due(y.shiftX() + "," + y.shiftY(), "0,-4");
        y.fill(1, 16, 12, 4, 4, false);
        y.compare();
        due(y.shiftX() + "," + y.shiftY(), "-4,0");
        // A coarse choice that the fine stage can't leave, though a better shift is further away.
        ScanCompare z = new ScanCompare(32, 32);
        z.fill(0, 10, 8, 4, 4, true);
        z.fill(1, 8, 8, 4, 4, true);
        z.fill(1, 12, 8, 1, 4, true);
        z.compare();
        due(z.shiftX() + "," + z.shiftY() + " " + z.mismatch(), "-1,0 4");
    }

    private static void skews() {
        ScanCompare x = new ScanCompare(48, 48);
        x.fill(0, 10, 2, 2, 44, true);
        x.fill(0, 30, 2, 2, 44, true);
        x.fill(0, 10, 20, 20, 2, true);
        for (int s = -2; s <= 2; s++) {
            for (int y = 0; y < 48; y++) {
                // T(x, y) = S(x + floor(s * y / 16), y)
                int by = (int) Math.floor(s * y / 16.0);
                x.setRow(1, y, by >= 0 ? x.row(0, y) << by : x.row(0, y) >>> -by);
            }
            configure(x, "skew=2");
            due(x.compare(), 0);
            due(x.skew(), s);
            due(x.mismatch(), 0);
            due(x.shiftX(), 0);
            configure(x, "skew=0");
            x.compare();
            due(x.skew(), 0);
            due(x.mismatch() == 0, s == 0);
        }
        // Equal mismatches: the least |s|, then the negative s.
        ScanCompare y = new ScanCompare(16, 16);
        configure(y, "skew=2");
        y.fill(0, 4, 2, 3, 3, true);
        y.copy(0, 1, 0, 0);
        y.compare();
        due(y.skew(), 0);
        ScanCompare z = new ScanCompare(64, 64);
        configure(z, "skew=2;search=0");
        // In row 16 a skew s is a shift by s; below it a negative one goes a column further.
        z.fill(0, 31, 16, 1, 1, true);
        z.fill(1, 30, 16, 1, 1, true);
        z.fill(1, 32, 16, 1, 1, true);
        z.compare();
        due(z.skew() + " " + z.mismatch(), "-1 1");
        z.fill(0, 31, 17, 1, 1, true);
        z.fill(1, 30, 17, 1, 1, true);
        z.fill(1, 32, 17, 1, 1, true);
        z.compare();
        due(z.skew() + " " + z.mismatch(), "1 2");
    }

    private static void turns() {
        ScanCompare x = new ScanCompare(20, 12);
        draw(x, 0, "", "", "", "....#####", "....#", "....#..#", "....#####..##");
        x.copy(0, 1, 0, 0);
        x.flip(1, 2);
        x.compare();
        due(x.turned(), false);
        configure(x, "turn=on");
        due(x.compare(), 0);
        due(x.turned(), true);
        due(x.shiftX() + "," + x.shiftY() + " " + x.mismatch(), "0,0 0");
        x.copy(1, 1, -2, 1);
        due(x.compare(), 0);
        due(x.turned(), true);
        due(x.shiftX() + "," + x.shiftY() + " " + x.mismatch(), "2,-1 0");
        due(report(x), "shift 2,-1 skew 0 turned\n0 changes\n");
        // What is its own half turn is not turned.
        x.fill(0, 0, 0, 20, 12, false);
        x.fill(0, 8, 5, 4, 2, true);
        x.copy(0, 1, 0, 0);
        x.compare();
        due(x.turned(), false);
    }

    private static void mismatches() {
        ScanCompare x = new ScanCompare(20, 12);
        x.fill(0, 3, 3, 6, 4, true);
        x.copy(0, 1, 3, -2);
        x.fill(1, 6, 1, 1, 1, false);
        x.compare();
        due(x.mismatch(), 1);
        due(x.similarity(), 995);
        due(x.mismatchAt(3, -2), 1);
        due(x.mismatchAt(0, 0), 35);
        due(x.mismatchAt(2, -2), 9);
        due(x.mismatchAt(16, 16), 24);
        due(x.mismatchAt(-16, -16), 24);
        due(x.mismatchAt(-16, 16), 24);
        thrown(ARGUMENT, () -> x.mismatchAt(17, 0));
        thrown(ARGUMENT, () -> x.mismatchAt(0, 17));
        thrown(ARGUMENT, () -> x.mismatchAt(-17, 0));
        thrown(ARGUMENT, () -> x.mismatchAt(0, LOW));
        thrown(ARGUMENT, () -> x.mismatchAt(HIGH, LOW));
        x.fill(1, 0, 0, 99, 99, false);
        x.compare();
        due(x.mismatch(), 24);
        due(x.similarity(), 900);
        // Masks have no part in the mismatch.
        x.addMask(0, 0, 20, 12);
        due(x.compare(), 0);
        due(x.mismatch(), 24);
        ScanCompare full = plain(8, 8);
        full.fill(0, 0, 0, 8, 8, true);
        full.compare();
        due(full.similarity(), 0);
        full.fill(1, 0, 0, 1, 1, true);
        full.compare();
        due(full.similarity(), 15);
    }

    private static void blocks() {
        ScanCompare x = plain(10, 13);
        x.fill(0, 0, 0, 2, 2, true);
        x.fill(1, 3, 3, 2, 2, true);
        x.fill(1, 9, 12, 1, 1, true);
        x.compare();
        due(x.blockDifference(0, 0), 5);
        due(x.blockDifference(1, 0), 1);
        due(x.blockDifference(0, 1), 1);
        due(x.blockDifference(1, 1), 1);
        due(x.blockDifference(2, 3), 1);
        due(x.blockDifference(2, 0), 0);
        thrown(INDEX, () -> x.blockDifference(3, 0));
        thrown(INDEX, () -> x.blockDifference(0, 4));
        thrown(INDEX, () -> x.blockDifference(-1, 0));
        thrown(INDEX, () -> x.blockDifference(0, -1));
        thrown(INDEX, () -> x.blockDifference(HIGH, HIGH));
        configure(x, "block=16");
        x.compare();
        due(x.blockDifference(0, 0), 9);
        thrown(INDEX, () -> x.blockDifference(1, 0));
        thrown(INDEX, () -> x.blockDifference(0, 1));
    }

    private static void jitter() {
        ScanCompare x = plain(16, 16);
        configure(x, "pair=99");
        x.fill(0, 4, 4, 1, 1, true);
        x.fill(0, 12, 0, 1, 1, true);
        x.fill(1, 6, 5, 1, 1, true);
        due(x.compare(), 3);
        configure(x, "jitter=1");
        due(x.compare(), 3);
        configure(x, "jitter=2");
        due(x.compare(), 1);
        due(x.blockDifference(1, 1), 0);
        due(x.blockDifference(3, 0), 1);
        // The scan is looked at as aligned: what the shift moves off the page helps nobody.
        ScanCompare edge = plain(8, 8);
        configure(edge, "jitter=2");
        edge.fill(0, 0, 0, 1, 1, true);
        edge.fill(1, 7, 7, 1, 1, true);
        due(edge.compare(), 1);
        due(edge.changeKind(0), 3);
    }

    private static void regions() {
        ScanCompare x = plain(16, 16);
        x.fill(0, 1, 1, 5, 1, true);    // blocks (0, 0) and (1, 0)
        x.fill(1, 9, 5, 1, 1, true);    // block (2, 1), at a corner of (1, 0)
        x.fill(1, 15, 15, 1, 1, true);  // block (3, 3)
        x.compare();
        due(x.regions(), 3);
        due(x.regionAt(0, 0), 0);
        due(x.regionAt(7, 3), 0);
        due(x.regionAt(8, 3), -1);
        due(x.regionAt(8, 4), 1);
        due(x.regionAt(11, 7), 1);
        due(x.regionAt(15, 12), 2);
        due(x.regionAt(11, 12), -1);
        thrown(INDEX, () -> x.regionAt(16, 0));
        thrown(INDEX, () -> x.regionAt(0, 16));
        thrown(INDEX, () -> x.regionAt(-1, 0));
        thrown(INDEX, () -> x.regionAt(0, -1));
        thrown(INDEX, () -> x.regionAt(HIGH, HIGH));
        configure(x, "noise=1");
        x.compare();
        due(x.regions(), 1);
        due(x.regionAt(0, 0), 0);
        due(x.regionAt(15, 12), -1);
        configure(x, "noise=3");
        x.compare();
        due(x.regions(), 0);
        // Blocks joined around a corner, and no joining from the end of a row of blocks to the next.
        ScanCompare y = plain(12, 16);
        y.fill(1, 0, 5, 1, 1, true);
        y.fill(1, 11, 1, 1, 1, true);
        y.fill(1, 1, 9, 9, 1, true);
        y.fill(1, 8, 13, 1, 1, true);
        y.compare();
        due(y.regions(), 2);
        due(y.regionAt(0, 4), 1);
        due(y.regionAt(11, 15), 1);
        due(y.regionAt(11, 0), 0);
        // As many regions as there can be.
        ScanCompare many = plain(64, 64);
        for (int y4 = 0; y4 < 64; y4 += 4) {
            many.setRow(1, y4, (y4 & 4) == 0 ? 0x0101010101010101L : 0x1010101010101010L);
        }
        due(many.compare(), 128);
        due(many.regions(), 128);
        due(many.regionAt(63, 60), -1 + 128);
    }

    private static void boxes() {
        ScanCompare x = compared();
        due(x.regions(), 4);
        int[][] boxes = {{1, 1, 3, 3}, {17, 1, 20, 2}, {1, 17, 4, 18}, {18, 17, 22, 21}};
        int[][] counts = {{9, 0}, {8, 0}, {0, 8}, {0, 25}};
        for (int r = 0; r < 4; r++) {
            due(x.regionLeft(r), boxes[r][0]);
            due(x.regionTop(r), boxes[r][1]);
            due(x.regionRight(r), boxes[r][2]);
            due(x.regionBottom(r), boxes[r][3]);
            due(x.missingPixels(r), counts[r][0]);
            due(x.addedPixels(r), counts[r][1]);
        }
        for (int bad : new int[] {-1, 4, LOW, HIGH}) {
            thrown(INDEX, () -> x.regionLeft(bad));
            thrown(INDEX, () -> x.regionTop(bad));
            thrown(INDEX, () -> x.regionRight(bad));
            thrown(INDEX, () -> x.regionBottom(bad));
            thrown(INDEX, () -> x.missingPixels(bad));
            thrown(INDEX, () -> x.addedPixels(bad));
        }
        // A box is of the missing and the added pixels together, those of changed blocks alone.
        ScanCompare y = plain(16, 16);
        configure(y, "noise=2");
        y.fill(0, 1, 1, 1, 3, true);
        y.fill(1, 5, 2, 2, 3, true);
        y.fill(1, 2, 0, 3, 1, true);
        y.compare();
        due(y.regions(), 1);
        due(y.regionLeft(0) + "," + y.regionTop(0) + "," + y.regionRight(0) + "," + y.regionBottom(0), "1,0,6,3");
        due(y.missingPixels(0), 3);
        due(y.addedPixels(0), 7);
    }

    private static void readingOrder() {
        ScanCompare x = plain(40, 40);
        x.fill(1, 20, 1, 2, 6, true);    // rows 1 to 6
        x.fill(1, 4, 6, 2, 4, true);     // rows 6 to 9, in the band by its top
        x.fill(1, 30, 9, 2, 1, true);    // row 9, in the band by the one before
        x.fill(1, 12, 10, 2, 2, true);   // row 10 begins the next band
        x.fill(1, 36, 2, 1, 1, true);
        due(corners(x), "4,6 20,1 30,9 36,2 12,10 ");
        configure(x, "order=columns");
        due(corners(x), "4,6 12,10 20,1 30,9 36,2 ");
        x.fill(1, 13, 30, 10, 2, true);  // columns 13 to 22 join those of 12 and 20
        due(corners(x), "4,6 20,1 12,10 13,30 30,9 36,2 ");
        configure(x, "order=rows");
        due(corners(x), "4,6 20,1 30,9 36,2 12,10 13,30 ");
        // The end of a band is the greatest bottom, not the latest.
        ScanCompare y = plain(40, 40);
        y.fill(1, 30, 0, 2, 20, true);
        y.fill(1, 20, 3, 2, 2, true);
        y.fill(1, 10, 20, 2, 1, true);
        y.fill(1, 1, 19, 2, 1, true);
        due(corners(y), "1,19 20,3 30,0 10,20 ");
        // Equal lefts: the top decides.
        ScanCompare z = plain(40, 40);
        z.fill(1, 24, 0, 2, 30, true);
        z.fill(1, 4, 20, 2, 2, true);
        z.fill(1, 4, 8, 2, 2, true);
        due(corners(z), "4,8 4,20 24,0 ");
    }

    private static void changes() {
        ScanCompare x = compared();
        due(x.changes(), 3);
        int[][] all = {
            {1, 0, -1, 0, 0, 9},
            {3, 1, 2, -16, 16, 8},
            {2, 3, -1, 0, 0, 25}};
        for (int c = 0; c < 3; c++) {
            due(x.changeKind(c), all[c][0]);
            due(x.changeRegion(c), all[c][1]);
            due(x.changeTarget(c), all[c][2]);
            due(x.moveX(c), all[c][3]);
            due(x.moveY(c), all[c][4]);
            due(x.changePixels(c), all[c][5]);
        }
        for (int bad : new int[] {-1, 3, LOW, HIGH}) {
            thrown(INDEX, () -> x.changeKind(bad));
            thrown(INDEX, () -> x.changeRegion(bad));
            thrown(INDEX, () -> x.changeTarget(bad));
            thrown(INDEX, () -> x.moveX(bad));
            thrown(INDEX, () -> x.moveY(bad));
            thrown(INDEX, () -> x.changePixels(bad));
            thrown(INDEX, () -> x.changeLine(bad));
            thrown(INDEX, () -> x.learn(bad));
            thrown(INDEX, () -> x.stampOf(bad));
            thrown(INDEX, () -> x.accept(bad));
        }
        configure(x, "order=columns");
        due(x.compare(), 3);
        due(x.changeKind(1), 3);
        due(x.changeRegion(1), 2);
        due(x.changeTarget(1), 1);
    }

    private static void pairs() {
        ScanCompare x = plain(32, 32);
        x.fill(0, 1, 1, 2, 1, true);     // removed in region 0
        x.fill(1, 2, 3, 2, 1, true);     // added in the same region
        x.fill(1, 17, 1, 2, 1, true);    // added in region 1
        x.fill(0, 17, 9, 2, 1, true);    // removed in region 2
        x.fill(0, 17, 17, 1, 2, true);   // another shape
        due(x.compare(), 3);
        due(x.changeKind(0) + " " + x.changeRegion(0) + " " + x.changeTarget(0), "3 0 0");
        due(x.moveX(0) + "," + x.moveY(0), "1,2");
        due(x.changeKind(1) + " " + x.changeRegion(1) + " " + x.changeTarget(1), "3 2 1");
        due(x.moveX(1) + "," + x.moveY(1), "0,-8");
        due(x.changeKind(2) + " " + x.changeRegion(2) + " " + x.changeTarget(2), "1 3 -1");
        configure(x, "pair=2");
        due(x.compare(), 3);
        configure(x, "pair=3");
        due(x.compare(), 5);
        due(x.changeKind(0) + " " + x.changeRegion(0) + " " + x.changePixels(0), "1 0 2");
        due(x.changeKind(1) + " " + x.changeRegion(1) + " " + x.changePixels(1), "2 0 2");
        // Equal boxes and counts are not equal shapes.
        ScanCompare y = plain(32, 32);
        draw(y, 0, "##", "#.");
        draw(y, 1, "", "", "", "", "", "", "", "", ".........##", "..........#");
        due(y.compare(), 2);
        draw(y, 1, "", "", "", "", "", "", "", "", ".........##", ".........#");
        due(y.compare(), 1);
        due(y.changeKind(0), 3);
        // The parts of one region, with none that moves.
        ScanCompare z = plain(16, 16);
        z.fill(0, 0, 0, 3, 1, true);
        z.fill(1, 0, 2, 2, 2, true);
        due(z.compare(), 2);
        due(z.changeKind(0) + " " + z.changeRegion(0) + " " + z.changePixels(0), "1 0 3");
        due(z.changeKind(1) + " " + z.changeRegion(1) + " " + z.changePixels(1), "2 0 4");
    }

    private static void changeLines() {
        ScanCompare x = compared();
        due(x.changeLine(0), 0);
        due(x.changeLine(1), 0);
        due(x.changeLine(2), 0);
        ScanCompare y = plain(16, 32);
        configure(y, "jitter=0;pair=2");
        y.fill(0, 1, 1, 2, 2, true);
        y.fill(0, 1, 5, 2, 2, true);
        y.fill(0, 1, 20, 2, 3, true);
        y.copy(0, 1, 0, 0);
        y.fill(1, 1, 22, 2, 1, false);
        y.fill(1, 9, 4, 2, 1, true);
        y.fill(1, 13, 10, 2, 3, true);
        y.compare();
        // In the aligned scan the lines are rows 1 to 2, 4 to 6, 10 to 12 and 20 to 21.
        due(y.changes(), 2);
        due(y.changeKind(0) + " " + y.changeLine(0), "2 2");
        due(y.changeKind(1) + " " + y.changeLine(1), "3 2");
        configure(y, "pair=99");
        due(y.compare(), 3);
        due(y.changeKind(0) + " " + y.changeLine(0), "2 1");
        due(y.changeKind(1) + " " + y.changeLine(1), "2 2");
        due(y.changeKind(2) + " " + y.changeLine(2), "1 2");
        // The results are those of the pages as they were.
        y.fill(0, 0, 0, 16, 32, false);
        due(y.changeLine(2), 2);
    }

    private static void reports() {
        ScanCompare x = compared();
        due(report(x), "shift 0,0 skew 0\n3 changes\nremoved 9 at 1,1 size 3x3\n"
            + "moved 8 from 17,1 to 1,17 size 4x2\nadded 25 at 18,17 size 5x5\n");
        due(x.reportChar(HIGH), -1);
        thrown(INDEX, () -> x.reportChar(-1));
        thrown(INDEX, () -> x.reportChar(LOW));
        due(x.learn(2), 0);
        due(x.learn(1), 1);
        due(report(x), "shift 0,0 skew 0\n3 changes\nremoved 9 at 1,1 size 3x3\n"
            + "moved 8 from 17,1 to 1,17 size 4x2\nadded 25 at 18,17 size 5x5\n");
        x.compare();
        String stamped = "shift 0,0 skew 0\n3 changes\nremoved 9 at 1,1 size 3x3\n"
            + "moved 8 from 17,1 to 1,17 size 4x2 stamp 1\nadded 25 at 18,17 size 5x5 stamp 0\n";
        due(report(x), stamped);
        x.forgetStamp(0);
        due(report(x), stamped);
        ScanCompare one = new ScanCompare(20, 12);
        one.fill(0, 4, 4, 8, 4, true);
        one.copy(0, 1, -4, -4);
        one.fill(1, 9, 6, 3, 2, true);
        one.compare();
        due(report(one), "shift -4,-4 skew 0\n1 change\nadded 6 at 13,10 size 3x2\n");
    }

    private static void stamps() {
        ScanCompare x = plain(64, 16);
        // Eight bars of different lengths, and a second one of the first length.
        for (int k = 0; k < 8; k++) {
            x.fill(1, 8 * k, 0, 1, k + 1, true);
        }
        x.fill(0, 4, 12, 1, 1, true);
        due(x.compare(), 8);
        due(x.changeKind(0), 2);
        configure(x, "pair=99");
        due(x.compare(), 9);
        due(x.stampOf(0), -1);
        for (int k = 0; k < 7; k++) {
            due(x.learn(k), k);
            due(x.stampOf(k), k);
        }
        due(x.learn(3), 3);
        thrown(STATE, () -> x.learn(7));
        due(x.stampOf(7), -1);
        due(x.changeKind(8), 1);
        due(x.stampOf(8), 0);
        due(x.learn(8), 0);
        thrown(INDEX, () -> x.learn(9));
        thrown(INDEX, () -> x.forgetStamp(7));
        thrown(INDEX, () -> x.forgetStamp(-1));
        due(x.forgetStamp(2), 6);
        due(x.stampOf(2), -1);
        due(x.stampOf(1), 1);
        due(x.stampOf(3), 2);
        due(x.stampOf(6), 5);
        thrown(INDEX, () -> x.forgetStamp(6));
        due(x.learn(7), 6);
        due(x.stampOf(7), 6);
        for (int k = 6; k >= 0; k--) {
            due(x.forgetStamp(0), k);
        }
        thrown(INDEX, () -> x.forgetStamp(0));
        due(x.stampOf(0), -1);
        due(x.learn(4), 0);
    }

    private static void hiddenStamps() {
        ScanCompare x = three();
        x.compare();
        due(x.learn(0), 0);
        due(x.learn(1), 1);
        due(x.learn(2), 2);
        configure(x, "stamps=hide");
        due(x.changes(), 3);
        due(x.compare(), 1);
        due(x.regions(), 4);
        due(x.changeKind(0), 3);
        due(report(x), "shift 0,0 skew 0\n1 change\nmoved 8 from 17,1 to 1,17 size 4x2 stamp 1\n");
        due(x.forgetStamp(0), 2);
        due(x.changes(), 1);
        due(x.compare(), 2);
        due(x.changeKind(0), 1);
        configure(x, "stamps=keep");
        due(x.compare(), 3);
        due(x.stampOf(2), 1);
    }

    private static void accepting() {
        ScanCompare x = compared();
        due(x.accept(0), 9);
        due(x.ink(0, 0, 0, 8, 8), 0);
        due(x.accept(0), 0);
        due(x.changes(), 3);
        due(x.accept(1), 16);
        due(x.ink(0, 17, 1, 4, 2), 0);
        due(x.ink(0, 1, 17, 4, 2), 8);
        due(x.ink(1, 1, 17, 4, 2), 8);
        due(x.accept(2), 25);
        due(x.mismatch(), 50);
        due(x.compare(), 0);
        due(x.mismatch(), 0);
        due(x.undo(), 7);
        due(x.ink(0, 18, 17, 5, 5), 0);
        due(x.undo(), 6);
        due(x.ink(0, 17, 1, 4, 2), 8);
        // The parts are those of the comparison, whatever the page is now.
        due(x.compare(), 2);
        x.fill(0, 0, 0, 32, 32, false);
        due(x.accept(0), 8);
        due(x.accept(1), 25);
        thrown(INDEX, () -> x.accept(2));
        due(x.undo(), 7);
    }

    private static void leastNoise() {
        ScanCompare x = plain(32, 32);
        x.fill(1, 0, 0, 4, 4, true);     // 16
        x.fill(1, 4, 0, 2, 1, true);     // 2, beside it
        x.fill(1, 8, 0, 3, 3, true);     // 9, beside that
        x.fill(1, 20, 20, 1, 3, true);   // 3
        x.compare();
        due(x.regions(), 2);
        due(x.leastNoise(3), 0);
        due(x.leastNoise(2), 0);
        due(x.leastNoise(1), 9);
        due(x.leastNoise(0), 16);
        due(x.leastNoise(HIGH), 0);
        thrown(ARGUMENT, () -> x.leastNoise(-1));
        configure(x, "noise=5;block=16");
        due(x.leastNoise(1), 9);
        x.compare();
        due(x.leastNoise(1), 3);
        due(x.leastNoise(0), 27);
        due(x.regions(), 1);
        ScanCompare full = plain(16, 16);
        configure(full, "block=16");
        full.fill(1, 0, 0, 16, 16, true);
        full.compare();
        due(full.leastNoise(0), 256);
    }

    private static void noComparison() {
        ScanCompare x = new ScanCompare(8, 8);
        Call[] calls = {x::shiftX, x::shiftY, x::skew, x::turned, x::mismatch, x::similarity, x::regions, x::changes,
            () -> x.mismatchAt(99, 0), () -> x.blockDifference(-1, 0), () -> x.regionAt(-1, 0), () -> x.regionLeft(-1),
            () -> x.regionTop(-1), () -> x.regionRight(-1), () -> x.regionBottom(-1), () -> x.missingPixels(-1),
            () -> x.addedPixels(-1), () -> x.changeKind(-1), () -> x.changeRegion(-1), () -> x.changeTarget(-1),
            () -> x.moveX(-1), () -> x.moveY(-1), () -> x.changePixels(-1), () -> x.changeLine(-1),
            () -> x.reportChar(-1), () -> x.stampOf(-1), () -> x.accept(-1), () -> x.leastNoise(-1),
            () -> x.regionLeft(0), () -> x.changeKind(0), () -> x.reportChar(0), () -> x.accept(0)};
        for (Call call : calls) {
            thrown(STATE, call);
        }
        thrown(INDEX, () -> x.learn(0));
        thrown(INDEX, () -> x.learn(-1));
        thrown(STATE, x::undo);
    }

    private static void resultsStay() {
        ScanCompare x = compared();
        String before = report(x) + all(x);
        x.fill(0, 0, 0, 32, 32, false);
        x.fill(1, 0, 0, 32, 32, true);
        configure(x, "block=4;noise=99;jitter=0;order=columns;stamps=hide;turn=on;skew=2");
        x.addMask(0, 0, 32, 32);
        x.learn(0);
        x.accept(0);
        due(report(x) + all(x), before);
        due(x.compare(), 0);
    }

    private static String all(ScanCompare x) {
        StringBuilder all = new StringBuilder();
        all.append(x.shiftX()).append(x.shiftY()).append(x.skew()).append(x.turned()).append(x.mismatch());
        all.append(x.similarity()).append(' ').append(x.mismatchAt(1, -1)).append(' ').append(x.leastNoise(1));
        for (int j = 0; j < 4; j++) {
            for (int i = 0; i < 4; i++) {
                all.append(' ').append(x.blockDifference(i, j)).append(' ').append(x.regionAt(8 * i, 8 * j));
            }
        }
        for (int r = 0; r < x.regions(); r++) {
            all.append(' ').append(x.regionLeft(r)).append(x.missingPixels(r)).append(x.addedPixels(r));
        }
        for (int c = 0; c < x.changes(); c++) {
            all.append(' ').append(x.changeLine(c)).append(x.changeRegion(c)).append(x.changeTarget(c));
        }
        return all.toString();
    }

    private static void examples() {
        ScanCompare a = new ScanCompare(16, 16);
        due(a.fill(0, 2, 2, 5, 3, true), 15);
        due(a.copy(0, 1, 0, 0), 15);
        due(a.fill(1, 2, 2, 5, 3, false), 15);
        due(a.fill(1, 9, 2, 5, 3, true), 15);
        due(a.compare(), 0);
        thrown(INDEX, () -> a.changeKind(0));
        thrown(INDEX, () -> a.moveX(0));
        thrown(INDEX, () -> a.changePixels(0));
        due(a.leastNoise(0), 0);
        thrown(INDEX, () -> a.accept(0));
        due(a.row(0, 2), 124L);
        ScanCompare b = new ScanCompare(20, 12);
        due(b.fill(0, 3, 3, 6, 4, true), 24);
        due(b.copy(0, 1, 3, -2), 24);
        due(b.compare(), 0);
        due(b.shiftX(), 3);
        due(b.shiftY(), -2);
        due(b.mismatch(), 0);
        due(b.mismatchAt(0, 0), 36);
        due(b.similarity(), 1000);
        due(b.regions(), 0);
        ScanCompare c = new ScanCompare(24, 24);
        due(c.fill(0, 20, 20, 1, 1, true), 1);
        due(c.fill(0, 4, 4, 2, 2, true), 4);
        due(c.components(0), 2);
        due(c.despeckle(0, 3), 1);
        due(c.components(0), 1);
        due(c.undo(), 2);
        due(c.lines(0), 2);
        due(c.lineTop(0, 1), 20);
        thrown(INDEX, () -> c.lineTop(0, 2));
        ScanCompare d = new ScanCompare(8, 8);
        thrown(STATE, d::changes);
        due(d.compare(), 0);
        thrown(INDEX, () -> d.changeKind(0));
        due(d.type(110), 1);
        due(d.configure(), -1);
        due(d.clearText(), 1);
        due(d.configure(), 0);
        thrown(STATE, d::undo);
    }
}
