import java.util.List;
import java.util.function.Consumer;

/** The section "Description" of the document: each sentence that names a bound has a test of its own. */
public final class DescriptionTests extends Checks {
    private static final String OO = "oooooooooo";

    public static void main(String[] args) {
        use();
        pages();
        linesAndComponents();
        settings();
        settingsText();
        settingsErrors();
        patternText();
        patternErrors();
        masks();
        cleaning();
        turnAndSkew();
        mismatch();
        cells();
        coarseStage();
        fineStage();
        choice();
        differences();
        blocks();
        regions();
        bands();
        regionOrder();
        parts();
        moves();
        changes();
        stamps();
        results();
        edits();
        history();
        exceptions();
        end("the description holds at its bounds");
    }

    private static void use() {
        says("An object is used for at most 512 calls after it has been made", () -> {
            // The dearest comparisons, with many regions.
            ScanCompare x = new ScanCompare(64, 64);
            int calls = type(x, "block=4;noise=0;jitter=0;search=16;skew=2;turn=on;pair=1") + 2;
            x.configure();
            for (int y = 0; y < 64; y += 4) {
                x.setRow(1, y, (y & 4) == 0 ? 0x0101010101010101L : 0x1010101010101010L);
                calls++;
            }
            int first = x.compare();
            due(first > 40, true);
            for (; calls < 512; calls++) {
                due(x.compare(), first);
            }
            ScanCompare y = new ScanCompare(64, 64);
            for (int k = 1; k <= 504; k++) {
                due(y.setRow(0, 0, k) > 0, true);
            }
            for (int left = 7; left >= 0; left--) {
                due(y.undo(), left);
            }
        });
    }

    // ---- pages, text lines, components

    private static void pages() {
        says("There are four pages, 0 to 3, all with the same width W and height H.", () -> {
            ScanCompare x = new ScanCompare(9, 11);
            for (int p = 0; p < 4; p++) {
                due(x.fill(p, 0, 0, 64, 64, true), 99);
            }
            for (int p : new int[] {-1, 4, LOW, HIGH}) {
                thrown(INDEX, () -> x.row(p, 0), () -> x.setRow(p, 0, 0), () -> x.fill(p, 0, 0, 1, 1, true),
                    () -> x.copy(p, 0, 0, 0), () -> x.copy(0, p, 0, 0), () -> x.merge(p), () -> x.flip(p, 0),
                    () -> x.despeckle(p, 0), () -> x.paste(p, 0, 0), () -> x.components(p), () -> x.lines(p),
                    () -> x.lineTop(p, 0), () -> x.lineBottom(p, 0), () -> x.words(p, 0, 1),
                    () -> x.ink(p, 0, 0, 1, 1), () -> x.fingerprint(p));
            }
        });
        says("A pixel (x, y), with x from 0 to W - 1 and y from 0 to H - 1, is ink or blank", () -> {
            ScanCompare x = new ScanCompare(9, 11);
            int[][] inside = {{0, 0}, {8, 0}, {0, 10}, {8, 10}};
            for (int[] at : inside) {
                due(x.fill(0, at[0], at[1], 1, 1, true), 1);
                due(x.fill(0, at[0], at[1], 1, 1, true), 0);
            }
            int[][] outside = {{-1, 0}, {9, 0}, {0, -1}, {0, 11}, {-1, -1}, {9, 11}};
            for (int[] at : outside) {
                due(x.fill(0, at[0], at[1], 1, 1, true), 0);
            }
            due(x.ink(0, 0, 0, 9, 11), 4);
        });
        says("initially all pixels are blank", () -> {
            ScanCompare x = new ScanCompare(64, 64);
            for (int p = 0; p < 4; p++) {
                due(x.fill(p, 0, 0, 64, 64, false), 0);
            }
        });
        says("x grows to the right and y grows downward.", () -> {
            ScanCompare x = new ScanCompare(8, 8);
            dots(x, 0, 7, 0);
            due(x.copy(0, 0, 1, 0), 1);
            dots(x, 0, 0, 7);
            due(x.copy(0, 0, 0, 1), 1);
        });
        says("bit x is set if pixel x of the row is ink.", () -> {
            ScanCompare x = new ScanCompare(64, 8);
            dots(x, 0, 63, 0, 0, 1);
            due(x.row(0, 0), Long.MIN_VALUE);
            due(x.row(0, 1), 1L);
            x.setRow(0, 2, Long.MIN_VALUE);
            due(x.ink(0, 63, 2, 1, 1), 1);
            due(x.ink(0, 0, 2, 63, 1), 0);
        });
        says("Pixels outside a page are blank.", () -> {
            ScanCompare x = new ScanCompare(64, 8);
            int[][] moves = {{1, 0, 8}, {-1, 0, 8}, {0, 1, 64}, {0, -1, 64}, {1, -1, 71}};
            for (int[] m : moves) {
                x.fill(0, 0, 0, 64, 8, true);
                due(x.copy(0, 0, m[0], m[1]), m[2]);
                due(x.ink(0, 0, 0, 64, 8), 512 - m[2]);
            }
        });
    }

    private static void linesAndComponents() {
        says("A text line of an image is a maximal run of consecutive rows that contain ink", () -> {
            ScanCompare x = new ScanCompare(64, 64);
            due(x.lines(0), 0);
            for (int y = 0; y < 64; y++) {
                dots(x, 0, 63 - y, y);
                due(x.lines(0), 1);
            }
            due(x.lineTop(0, 0) + " " + x.lineBottom(0, 0), "0 63");
            for (int y = 0; y < 64; y += 2) {
                dots(x, 1, 63, y);
            }
            due(x.lines(1), 32);
            due(x.lineTop(1, 31) + " " + x.lineBottom(1, 31), "62 62");
            dots(x, 2, 0, 63);
            due(x.lines(2) + " " + x.lineTop(2, 0) + " " + x.lineBottom(2, 0), "1 63 63");
            dots(x, 3, 0, 0);
            due(x.lines(3) + " " + x.lineTop(3, 0) + " " + x.lineBottom(3, 0), "1 0 0");
        });
        says("the text lines are numbered from 0, from top to bottom.", () -> {
            ScanCompare x = new ScanCompare(8, 8);
            dots(x, 0, 0, 1, 7, 5);
            due(x.lineTop(0, 0), 1);
            due(x.lineTop(0, 1), 5);
            thrown(INDEX, () -> x.lineTop(0, -1), () -> x.lineTop(0, 2));
        });
        says("Two ink pixels are neighbors if they differ by at most 1 in x and by at most 1 in y.", () -> {
            for (int dx = -2; dx <= 2; dx++) {
                for (int dy = -2; dy <= 2; dy++) {
                    ScanCompare x = new ScanCompare(20, 20);
                    dots(x, 0, 10, 10, 10 + dx, 10 + dy);
                    due(x.components(0), Math.abs(dx) <= 1 && Math.abs(dy) <= 1 ? 1 : 2);
                }
            }
            // A pixel above the end of a hook that comes to it from below.
            for (int dx = -2; dx <= 2; dx++) {
                for (int dy = 1; dy <= 2; dy++) {
                    ScanCompare x = new ScanCompare(20, 20);
                    x.fill(0, 2, 2, 1, 13, true);
                    x.fill(0, 2, 14, 9, 1, true);
                    dots(x, 0, 10 + dx, 14 - dy);
                    due(x.components(0), dy == 1 && dx < 2 ? 1 : 2);
                }
            }
            // The end of a row is no neighbor of the start of another.
            for (int w : new int[] {8, 64}) {
                ScanCompare x = new ScanCompare(w, 8);
                dots(x, 0, w - 1, 0, 0, 1);
                dots(x, 1, 0, 0, w - 1, 0);
                dots(x, 2, 0, 0, w - 1, 1);
                due(x.components(0) + " " + x.components(1) + " " + x.components(2), "2 2 2");
            }
        });
        says("A component is a maximal set of ink pixels of a page that are connected by neighbors.", () -> {
            ScanCompare x = new ScanCompare(64, 64);
            due(x.components(0), 0);
            x.fill(0, 0, 0, 64, 64, true);
            due(x.components(0), 1);
            x.fill(0, 1, 1, 62, 62, false);
            x.fill(0, 3, 3, 2, 2, true);
            due(x.components(0), 2);
            // A comb whose teeth meet at the foot alone, and one that is grown into from its first tooth.
            ScanCompare comb = new ScanCompare(64, 64);
            for (int k = 0; k < 64; k += 2) {
                comb.fill(0, k, k / 2, 1, 64, true);
            }
            comb.fill(0, 0, 63, 64, 1, true);
            due(comb.components(0), 1);
            due(comb.despeckle(0, 64), 0);
            comb.fill(0, 31, 63, 1, 1, false);
            due(comb.components(0), 2);
        });
    }

    // ---- settings

    private static void settings() {
        range("0 block: the side of a block, 4 to 16, initially 8.", 0, "block", 4, 16, 8);
        range("1 noise: 0 to 256, initially 2.", 1, "noise", 0, 256, 2);
        range("2 jitter: 0 to 2, initially 1.", 2, "jitter", 0, 2, 1);
        range("3 speckle: 0 to 9, initially 0.", 3, "speckle", 0, 9, 0);
        range("4 search: 0 to 16, initially 8.", 4, "search", 0, 16, 8);
        range("5 skew: 0 to 2, initially 0.", 5, "skew", 0, 2, 0);
        words("6 turn: off (0) or on (1), initially off.", 6, "turn", "off", "on");
        words("7 order: rows (0) or columns (1), initially rows.", 7, "order", "rows", "columns");
        range("8 pair: 1 to 99, initially 4.", 8, "pair", 1, 99, 4);
        words("9 stamps: keep (0) or hide (1), initially keep.", 9, "stamps", "keep", "hide");
        says("There are ten settings, numbered from 0", () -> {
            ScanCompare x = new ScanCompare(8, 8);
            due(x.setting(0) + " " + x.setting(9), "8 0");
            thrown(INDEX, () -> x.setting(-1), () -> x.setting(10), () -> x.setting(LOW), () -> x.setting(HIGH));
        });
        says("a buffer of at most 80 characters with codes from 32 to 126, initially empty.", () -> {
            ScanCompare x = new ScanCompare(8, 8);
            due(x.clearText(), 0);
            thrown(ARGUMENT, () -> x.type(31), () -> x.type(127), () -> x.type(-1), () -> x.type(32 + 65536));
            due(x.type(32), 1);
            for (int i = 2; i <= 80; i++) {
                due(x.type(126), i);
            }
            thrown(STATE, () -> x.type(126), () -> x.type(32));
            due(x.clearText(), 80);
        });
    }

    private static void range(String sentence, int number, String name, int least, int greatest, int initial) {
        says(sentence, () -> {
            ScanCompare x = new ScanCompare(8, 8);
            due(x.setting(number), initial);
            for (int value = least; value <= greatest; value++) {
                due(configure(x, name + "=" + value), 1);
                due(x.setting(number), value);
            }
            int error = -2 - name.length();
            due(configure(x, name + "=" + (greatest + 1)), error);
            due(configure(x, name + "=" + (least - 1)), error);
            due(configure(x, name + "=999"), error);
            due(x.setting(number), greatest);
        });
    }

    private static void words(String sentence, int number, String name, String zero, String one) {
        says(sentence, () -> {
            ScanCompare x = new ScanCompare(8, 8);
            due(x.setting(number), 0);
            due(configure(x, name + "=" + one), 1);
            due(x.setting(number), 1);
            String[] bad = {"0", "1", "", one + "s", one.substring(1), zero + zero, zero.substring(0, 2) + " "};
            for (String value : bad) {
                due(configure(x, name + "=" + value), -2 - name.length());
            }
            due(x.setting(number), 1);
            due(configure(x, name + "=" + zero), 1);
            due(x.setting(number), 0);
        });
    }

    /** Tests texts that have the error positions that are given. */
    private static void badSettings(String sentence, Object... textsAndPlaces) {
        says(sentence, () -> {
            ScanCompare x = new ScanCompare(8, 8);
            for (int i = 0; i < textsAndPlaces.length; i += 2) {
                title = sentence + " [" + textsAndPlaces[i] + "]";
                due(configure(x, (String) textsAndPlaces[i]), -1 - (Integer) textsAndPlaces[i + 1]);
            }
            due(x.setting(0) + " " + x.setting(1) + " " + x.setting(6) + description(x), "8 2 0");
        });
    }

    private static void settingsText() {
        says("Settings text: settings separated by semicolons; it may also be empty.", () -> {
            ScanCompare x = new ScanCompare(8, 8);
            due(x.configure(), 0);
            due(description(x), "");
            String full = "skew=1;".repeat(10) + "search=016";
            due(type(x, full), 80);
            due(x.configure(), 11);
            due(description(x), "skew=1;search=16");
            due(x.configure(), 0);
            due(description(x), "skew=1;search=16");
        });
        badSettings("A name is a run of lowercase letters, as long as possible.",
            "noisenoise=1", 0, "blocks=4", 0, "bloc=4", 0, "lock=4", 0, "nois", 0, "turnon", 0, "boise=1", 0,
            "noisf=1", 0, "skewa=1", 0, "skewz=1", 0, "block1=4", 5, "noise_=1", 5, "skew`=1", 4, "skew{=1", 4,
            "skew@=1", 4, "skewZ=1", 4);
        badSettings("A value is a run of lowercase letters and digits, as long as possible:",
            "noise=1a", 6, "turn=on1", 5, "turn=onoff", 5, "noise=12block=4", 6, "noise=1A", 7, "turn=on-", 7,
            "noise=1z", 6, "noise=1`", 7, "noise=1{", 7, "noise=1/", 7, "noise=1:", 7, "turn=on0", 5, "turn=on9", 5,
            "turn=on/", 7, "turn=on:", 7, "turn=ona", 5, "turn=onz", 5, "turn=on`", 7, "turn=on{", 7);
        badSettings("one of the two words for the settings 6, 7 and 9 (off, on; rows, columns; keep, hide)",
            "turn=0", 5, "turn=1", 5, "order=1", 6, "stamps=0", 7, "turn=rows", 5, "order=keep", 6, "stamps=off", 7,
            "turn=o", 5, "turn=of", 5, "order=column", 6, "turn=an", 5, "turn=om", 5, "order=sows", 6, "order=rowt", 6);
        says("one to three digits with a value in the range for all others.", () -> {
            ScanCompare x = new ScanCompare(8, 8);
            due(configure(x, "noise=7;noise=07;noise=007;search=016;block=004"), 5);
            due(x.setting(1) + " " + x.setting(4) + " " + x.setting(0), "7 16 4");
            for (String value : new String[] {"", "0007", "0000", "1000", "99999999999", "7x", "x", "a1", "on"}) {
                due(configure(x, "noise=" + value), -7);
            }
        });
        says("If a setting occurs several times, the last one counts.", () -> {
            ScanCompare x = new ScanCompare(8, 8);
            due(configure(x, "block=4;noise=9;block=16;block=5"), 4);
            due(x.setting(0) + " " + x.setting(1), "5 9");
            due(configure(x, "turn=on;turn=off"), 2);
            due(x.setting(6), 0);
        });
    }

    private static void settingsErrors() {
        badSettings("the index of the first character of a name that is not one of the ten names (also if the name"
            + " is empty)",
            "x", 0, "=", 0, ";", 0, " ", 0, "=4", 0, "Block=4", 0, " block=4", 0, "9", 0, "block=4;=", 8,
            "block=4; noise=1", 8, "block=4;x=1", 8, "block=4;;noise=1", 8);
        badSettings("the index at which an equals sign is missing",
            "block4", 5, "block", 5, "block;", 5, "block =4", 5, "turnON", 4, "block=4;noise:1", 13);
        badSettings("the index of the first character of a value that is not allowed (also if the value is empty)",
            "block=", 6, "block=;", 6, "block==4", 6, "block= 4", 6, "block=-4", 6, "block=3;x", 6, "turn=;", 5,
            "block=4;block=17", 14);
        badSettings("the index of a character after a value that is not a semicolon, whichever comes first in the"
            + " text.",
            "block=4,x", 7, "block=4 ", 7, "block=4=", 7, "block=4:noise=999", 7, "turn=on,turn=on", 7,
            "block=4 ;", 7, "block=3 x", 6, "block=4;x,", 8);
        badSettings("It can be the length of the text.", "noise", 5, "noise=", 6, "noise=1;", 8, "noise=1;turn=", 13);
        badSettings("After a semicolon another setting must follow.",
            "block=4;", 8, "block=4;;", 8, "block=4;noise=1;", 16, ";block=4", 0);
    }

    // ---- pattern

    /** Tests texts that have the error positions that are given. */
    private static void badPatterns(String sentence, Object... textsAndPlaces) {
        says(sentence, () -> {
            ScanCompare x = new ScanCompare(8, 8);
            for (int i = 0; i < textsAndPlaces.length; i += 2) {
                title = sentence + " [" + textsAndPlaces[i] + "]";
                due(paste(x, 0, 0, 0, (String) textsAndPlaces[i]), -1 - (Integer) textsAndPlaces[i + 1]);
            }
            due(x.ink(0, 0, 0, 8, 8), 0);
            thrown(STATE, x::undo);
        });
    }

    private static void patternText() {
        says("Pattern text: items, followed by an exclamation mark, after which nothing may follow.", () -> {
            ScanCompare x = new ScanCompare(64, 64);
            due(paste(x, 0, 0, 0, "!"), 0);
            due(type(x, OO.repeat(7) + "ooooooooo!"), 80);
            due(x.paste(0, -15, 0), 64);
            due(type(x, "$".repeat(78) + "o!"), 80);
            due(x.paste(0, 0, -15), 1);
            due(x.row(0, 63), 1L);
        });
        says("with one or two digits and a value from 1 to 64; without a count it is 1.", () -> {
            ScanCompare x = new ScanCompare(64, 64);
            due(paste(x, 0, 0, 0, "o!"), 1);
            due(paste(x, 0, 0, 1, "1o!"), 1);
            due(paste(x, 0, 0, 2, "01o!"), 1);
            due(paste(x, 0, 0, 3, "09o!"), 9);
            due(paste(x, 0, 0, 4, "63o!"), 63);
            due(paste(x, 0, 0, 5, "64o!"), 64);
            due(paste(x, 0, 0, 5, "b2b!"), 3);
            due(paste(x, 1, 0, 0, "63$o!"), 1);
            due(x.row(1, 63), 1L);
        });
        says("Drawing begins at a given pixel.", () -> {
            ScanCompare x = new ScanCompare(9, 11);
            due(paste(x, 0, 8, 10, "o!"), 1);
            due(x.row(0, 10), 256L);
            due(paste(x, 0, 0, 0, "o!"), 1);
            due(x.row(0, 0), 1L);
        });
        says("from the current pixel on to the right, and the pixel after them becomes the current one", () -> {
            ScanCompare x = new ScanCompare(64, 8);
            x.setRow(0, 0, -1L);
            due(paste(x, 0, 0, 0, "b2o3b57ob!"), 5);
            due(x.row(0, 0), -1L & ~(1L | 0b111000L | 1L << 63));
        });
        says("$ goes to the first column of the drawing, as many rows further down as the count says.", () -> {
            ScanCompare x = new ScanCompare(16, 16);
            due(paste(x, 0, 5, 2, "$o2$3o$$o!"), 5);
            due(x.row(0, 3) + " " + x.row(0, 5) + " " + x.row(0, 7), "32 224 32");
        });
        says("Pixels outside the page are ignored, pixels that are not drawn stay as they are.", () -> {
            ScanCompare x = new ScanCompare(9, 11);
            due(paste(x, 0, -63, 0, "64o!"), 1);
            due(paste(x, 0, -64, 1, "64o!"), 0);
            due(paste(x, 0, 8, 2, "64o64o!"), 1);
            due(paste(x, 0, 9, 3, "64o!"), 0);
            due(paste(x, 0, 0, -1, "64o!"), 0);
            due(paste(x, 0, 0, 11, "64o!"), 0);
            due(paste(x, 0, 0, -64, "o64$o!"), 0);
            due(x.row(0, 0), 1L);
            for (int bad : new int[] {LOW, LOW + 1, HIGH - 1, HIGH}) {
                due(paste(x, 0, bad, 5, "64o64o64o!"), 0);
                due(paste(x, 0, 0, bad, "o64$64o64$o!"), 0);
            }
            due(x.ink(0, 0, 0, 9, 11), 2);
        });
    }

    private static void patternErrors() {
        badPatterns("the index of a character that is none of o, b, $, ! and the digits,",
            "x!", 0, "O!", 0, " o!", 0, "ox!", 1, "5x!", 1, "64;o!", 2, "o!x", 2, "a", 0, "oo~", 2, "#", 0, "\"", 0,
            "%", 0, "/", 0, ":", 0, "a!", 0, "c!", 0, "n!", 0, "p!", 0);
        badPatterns("of the third digit of a count,",
            "100o!", 2, "010o!", 2, "000", 2, "1234567o!", 2, "o999!", 3, "64o064o!", 5);
        badPatterns("of the first digit of a count of one or two digits that is not from 1 to 64,",
            "0o!", 0, "00o!", 0, "65o!", 0, "99o!", 0, "o0b!", 1, "64o65o!", 3, "0!", 0, "65x", 0, "66!", 0);
        badPatterns("of an exclamation mark directly after a count,",
            "1!", 1, "64!", 2, "o5!", 2, "5!o", 1, "5!!", 1);
        badPatterns("of a character after the first exclamation mark, whichever comes first in the text;",
            "!!", 1, "!o", 1, "! ", 1, "!0", 1, "o!o!", 2, "o!65", 2, "x!o", 0);
        badPatterns("it is the length of the text if it ends without an exclamation mark.",
            "", 0, "o", 1, "$", 1, "5", 1, "64", 2, "oo5", 3, OO.repeat(8), 80);
    }

    // ---- masks, cleaning

    private static void masks() {
        says("There are at most 6 masks, numbered from 0 in the order in which they were added.", () -> {
            ScanCompare x = plain(64, 8);
            for (int k = 0; k < 7; k++) {
                dots(x, 1, 8 * k, 0);
            }
            for (int k = 0; k < 6; k++) {
                due(x.addMask(8 * k, 0, 1, 1), k + 1);
            }
            thrown(STATE, () -> x.addMask(48, 0, 1, 1));
            due(corners(x), "48,0 ");
            // Of 0 to 5, the numbers 0, 2 and 5 are removed.
            due(x.removeMask(5) + " " + x.removeMask(2) + " " + x.removeMask(0), "5 4 3");
            due(corners(x), "0,0 16,0 40,0 48,0 ");
            due(x.removeMask(1), 2);
            due(corners(x), "0,0 16,0 24,0 40,0 48,0 ");
            due(x.addMask(48, 0, 1, 1), 3);
            due(x.removeMask(0), 2);
            due(corners(x), "0,0 8,0 16,0 24,0 40,0 ");
            // Each mask keeps its own rectangle when its number decreases.
            ScanCompare y = plain(16, 16);
            y.fill(1, 0, 0, 16, 16, true);
            int[][] masks = {{0, 0, 1, 1}, {1, 2, 3, 4}, {4, 3, 2, 11}, {9, 9, 7, 1}};
            for (int[] m : masks) {
                y.addMask(m[0], m[1], m[2], m[3]);
            }
            int[] left = {256 - 41, 256 - 19, 256 - 7};
            for (int k = 0; k < 3; k++) {
                y.removeMask(k % 2);
                y.compare();
                due(y.addedPixels(0), left[k]);
            }
        });
        says("A mask is a rectangle of pixels within the page.", () -> {
            ScanCompare x = plain(9, 11);
            x.fill(1, 0, 0, 9, 11, true);
            due(x.addMask(0, 0, 9, 11), 1);
            due(x.compare(), 0);
            due(x.removeMask(0), 0);
            due(x.addMask(1, 1, 8, 10), 1);
            x.compare();
            due(x.addedPixels(0), 19);
            due(x.removeMask(0), 0);
            due(x.addMask(8, 10, 1, 1), 1);
            x.compare();
            due(x.addedPixels(0), 98);
            thrown(ARGUMENT, () -> x.addMask(0, 0, 10, 11), () -> x.addMask(0, 0, 9, 12),
                () -> x.addMask(8, 10, 2, 1), () -> x.addMask(8, 10, 1, 2), () -> x.addMask(-1, 0, 2, 2),
                () -> x.addMask(0, -1, 2, 2));
        });
    }

    private static void cleaning() {
        says("A comparison of page 0 with page 1 works as follows; it does not change the pages.", () -> {
            ScanCompare x = three();
            configure(x, "speckle=9;turn=on;skew=2");
            for (int p = 0; p < 4; p++) {
                x.fill(p, 30, 2, 1, p + 1, true);
            }
            String before = prints(x);
            x.compare();
            due(prints(x), before);
        });
        says("each without the components that have fewer pixels than the setting speckle says.", () -> {
            for (int page = 0; page < 2; page++) {
                for (int pixels = 1; pixels <= 9; pixels++) {
                    ScanCompare x = plain(16, 16);
                    x.fill(page, 2, 3, pixels, 1, true);
                    int[] speckles = {0, pixels, Math.min(9, pixels + 1), Math.max(0, pixels - 1)};
                    for (int speckle : speckles) {
                        configure(x, "speckle=" + speckle);
                        due(x.compare(), pixels < speckle ? 0 : 1);
                        due(x.mismatch(), pixels < speckle ? 0 : pixels);
                    }
                }
            }
        });
    }

    private static String prints(ScanCompare x) {
        return x.fingerprint(0) + " " + x.fingerprint(1) + " " + x.fingerprint(2) + " " + x.fingerprint(3);
    }

    // ---- registration

    private static void turnAndSkew() {
        says("which is blank outside of the page", () -> {
            // The skew moves the pixel (0, 20) of the scan off the page; a shift doesn't bring it back.
            ScanCompare x = new ScanCompare(32, 32);
            configure(x, "skew=1;search=0");
            x.fill(1, 20, 0, 1, 32, true);
            dots(x, 1, 0, 20);
            x.fill(0, 20, 0, 1, 16, true);
            x.fill(0, 19, 16, 1, 16, true);
            x.compare();
            due(x.skew() + " " + x.mismatch(), "1 0");
            due(x.mismatchAt(-1, 0), 64);
            due(x.mismatchAt(0, 16), 48);
        });
        says("T(x, y) = S'(x + floor(s * y / 16), y) for all pixels (x, y) of the page", () -> {
            int[] slants = {-2, -1, 0, 1, 2};
            for (int s : slants) {
                ScanCompare x = new ScanCompare(64, 64);
                configure(x, "skew=2;search=0");
                x.fill(1, 30, 0, 1, 64, true);
                for (int y = 0; y < 64; y++) {
                    dots(x, 0, 30 - (int) Math.floor(s * y / 16.0), y);
                }
                x.compare();
                due(x.skew() + " " + x.mismatch(), s + " 0");
            }
        });
        says("S rotated by 180 degrees, S'(x, y) = S(W - 1 - x, H - 1 - y), if t is 1.", () -> {
            ScanCompare x = new ScanCompare(9, 11);
            configure(x, "turn=on;search=0");
            dots(x, 0, 0, 0, 1, 2, 4, 5);
            dots(x, 1, 8, 10, 7, 8, 4, 5);
            x.compare();
            due(x.turned() + " " + x.mismatch(), "true 0");
            configure(x, "turn=off");
            x.compare();
            due(x.turned() + " " + x.mismatch(), "false 4");
        });
        says("For each t (0, and also 1 if turn is on) and each s from -skew to skew a shift is found in two stages.",
            () -> {
            ScanCompare x = new ScanCompare(64, 64);
            x.fill(1, 30, 0, 1, 64, true);
            // With a skew of at most 1, the half way is nearer for -2, and for 2 as near as none.
            int[][] slants = {{-2, -1}, {2, 0}};
            for (int[] slant : slants) {
                int s = slant[0];
                x.fill(0, 0, 0, 64, 64, false);
                for (int y = 0; y < 64; y++) {
                    dots(x, 0, 30 - (int) Math.floor(s * y / 16.0), y);
                }
                configure(x, "search=0;skew=0");
                x.compare();
                due(x.skew(), 0);
                configure(x, "skew=1");
                x.compare();
                due(x.skew(), slant[1]);
                configure(x, "skew=2");
                x.compare();
                due(x.skew(), s);
            }
            ScanCompare y = new ScanCompare(32, 32);
            y.fill(0, 4, 4, 8, 4, true);
            y.fill(0, 4, 8, 4, 4, true);
            y.copy(0, 1, 0, 0);
            y.flip(1, 2);
            y.copy(1, 1, -4, 4);
            configure(y, "skew=2");
            y.compare();
            due(y.turned(), false);
            configure(y, "turn=on");
            y.compare();
            due(report(y), "shift 4,-4 skew 0 turned\n0 changes\n");
        });
    }

    private static void mismatch() {
        says("A shift (dx, dy) gives the aligned scan A(x, y) = T(x + dx, y + dy) for all pixels of the page.", () -> {
            ScanCompare x = plain(9, 11);
            dots(x, 0, 4, 5);
            dots(x, 1, 6, 2);
            x.compare();
            due(x.mismatchAt(2, -3), 0);
            due(x.mismatchAt(-2, -3), 2);
            // The scan's pixel comes to the last column, to the first row and off the page.
            due(x.mismatchAt(-2, 0) + " " + x.mismatchAt(-3, 0), "2 1");
            due(x.mismatchAt(0, 2) + " " + x.mismatchAt(0, 3), "2 1");
        });
        says("Its mismatch is the number of pixels (x, y) of the page for which O(x, y) and A(x, y) are different.",
            () -> {
            ScanCompare x = new ScanCompare(8, 8);
            x.compare();
            due(x.mismatch(), 0);
            x.fill(0, 0, 0, 8, 8, true);
            x.fill(1, 0, 0, 8, 8, true);
            x.compare();
            due(x.mismatch(), 0);
            due(x.mismatchAt(1, 0) + " " + x.mismatchAt(0, -1) + " " + x.mismatchAt(8, 0), "8 8 64");
            due(x.mismatchAt(16, -16), 64);
            x.fill(1, 0, 0, 8, 8, false);
            x.compare();
            due(x.mismatch(), 64);
            x.copy(0, 1, 0, 0);
            x.fill(0, 0, 0, 8, 8, false);
            configure(x, "search=7");
            // The scan's ink is moved off the page as far as the search allows.
            x.compare();
            due(x.mismatch(), 1);
        });
    }

    private static void cells() {
        says("that belong to the page (i from 0 to ceil(W / 4) - 1, j from 0 to ceil(H / 4) - 1).", () -> {
            // The last cells hold one column or one row alone, and still draw the coarse stage to themselves.
            for (int last = 1; last <= 4; last++) {
                ScanCompare x = new ScanCompare(12 + last, 12 + last);
                configure(x, "search=4");
                x.fill(0, 8, 4, 1, 4, true);
                x.fill(1, 12, 4, 1, 4, true);
                due(shift(x), "4,0");
                ScanCompare y = new ScanCompare(12 + last, 12 + last);
                configure(y, "search=4");
                y.fill(0, 4, 8, 4, 1, true);
                y.fill(1, 4, 12, 4, 1, true);
                due(shift(y), "0,4");
            }
            ScanCompare whole = new ScanCompare(64, 64);
            configure(whole, "search=4");
            whole.fill(0, 56, 56, 4, 4, true);
            whole.fill(1, 60, 60, 4, 4, true);
            due(shift(whole), "4,4");
        });
        says("For whole numbers a and b with |4 * a| and |4 * b| at most search", () -> {
            // The scan's ink lies two cells away.
            int[][] aways = {{8, 0}, {-8, 0}, {0, 8}, {0, -8}};
            for (int[] away : aways) {
                ScanCompare x = new ScanCompare(40, 40);
                x.fill(0, 16, 16, 4, 4, true);
                x.fill(1, 16 + away[0], 16 + away[1], 4, 4, true);
                configure(x, "search=8");
                due(shift(x), away[0] + "," + away[1]);
                configure(x, "search=7");
                due(shift(x), "0,0");
                configure(x, "search=4");
                due(shift(x), "0,0");
            }
            ScanCompare far = new ScanCompare(64, 64);
            far.fill(0, 24, 24, 4, 4, true);
            far.fill(1, 40, 40, 4, 4, true);
            configure(far, "search=16");
            due(shift(far), "16,16");
            configure(far, "search=15");
            due(shift(far), "0,0");
            configure(far, "search=3");
            far.copy(0, 1, 3, 3);
            due(shift(far), "3,3");
            configure(far, "search=0");
            due(shift(far), "0,0");
        });
        says("the coarse cost is the sum, over all cells (i, j), of the absolute difference", () -> {
            // A shift that moves the scan's ink off the page leaves no cell of the original to differ from it.
            int[][] edges = {{0, 8, 4, 0}, {16, 8, -4, 0}, {8, 0, 0, 4}, {8, 16, 0, -4}};
            for (int[] e : edges) {
                ScanCompare x = new ScanCompare(20, 20);
                x.fill(1, e[0], e[1], 4, 4, true);
                due(shift(x) + " " + x.mismatch(), e[2] + "," + e[3] + " 0");
            }
            // The same for the original costs all of its ink.
            for (int[] e : edges) {
                ScanCompare x = new ScanCompare(20, 20);
                x.fill(0, e[0], e[1], 4, 4, true);
                due(shift(x) + " " + x.mismatch(), "0,0 16");
            }
        });
        says("which is 0 if there is no such cell.", () -> {
            // Ink at the edges of the original, which no cell of the blank scan could match.
            ScanCompare x = new ScanCompare(16, 16);
            x.fill(0, 0, 0, 16, 16, true);
            x.fill(0, 4, 4, 8, 8, false);
            due(shift(x), "0,0");
            due(x.mismatch(), 192);
            // The cell right of the last one of a row is not the first one of the next row.
            ScanCompare y = new ScanCompare(16, 16);
            configure(y, "search=4");
            y.fill(0, 12, 4, 4, 4, true);
            y.fill(1, 0, 8, 4, 4, true);
            y.fill(0, 8, 8, 4, 2, true);
            y.fill(1, 8, 8, 4, 2, true);
            due(shift(y), "0,0");
            // Nor is the cell left of the first one of a row the last one of the row before.
            y.flip(0, 2);
            y.flip(1, 2);
            due(shift(y), "0,0");
        });
    }

    /** An original with one block of 4 by 4 pixels, and a scan with some that lie so many cells away. */
    private static ScanCompare cellsAway(int... aways) {
        ScanCompare x = new ScanCompare(64, 64);
        configure(x, "search=16");
        x.fill(0, 28, 28, 4, 4, true);
        for (int i = 0; i + 1 < aways.length; i += 2) {
            x.fill(1, 28 + 4 * aways[i], 28 + 4 * aways[i + 1], 4, 4, true);
        }
        return x;
    }

    private static void coarseStage() {
        says("The pair (a, b) with the least coarse cost is chosen;", () -> {
            due(shift(cellsAway(-4, 4)), "-16,16");
            due(shift(cellsAway(4, -4)), "16,-16");
            due(shift(cellsAway(0, 0, 1, 0)), "0,0");
            // A cell with 15 of 16 pixels is further away than one with all of them, and the nearer one with fewer.
            ScanCompare x = cellsAway(1, 0, 3, 0);
            x.fill(1, 32, 28, 1, 1, false);
            due(shift(x), "12,0");
        });
        says("of several, the one with the least |a| + |b|, then the one with the least b, then the one with the"
            + " least a.", () -> {
            due(shift(cellsAway(2, 2, 3, 0)), "12,0");
            due(shift(cellsAway(2, 2, 0, -3)), "0,-12");
            due(shift(cellsAway(-2, 0, 1, 1)), "-8,0");
            due(shift(cellsAway(2, 0, -1, 1)), "8,0");
            due(shift(cellsAway(2, 0, -1, -1)), "-4,-4");
            due(shift(cellsAway(0, 2, 2, 0, 0, -2, -2, 0)), "0,-8");
            due(shift(cellsAway(0, 2, 2, 0, -2, 0)), "-8,0");
            due(shift(cellsAway(0, 2, 1, 1, -1, 1)), "-4,4");
            due(shift(cellsAway(1, 1, -1, -1)), "-4,-4");
            due(shift(cellsAway()), "0,0");
        });
    }

    private static void fineStage() {
        says("of all shifts with 4 * a - 3 <= dx <= 4 * a + 3, 4 * b - 3 <= dy <= 4 * b + 3", () -> {
            // The coarse stage keeps to its cell, as two columns of the scan's ink are there.
            ScanCompare x = new ScanCompare(40, 40);
            for (int away = -6; away <= 6; away++) {
                x.fill(0, 0, 0, 40, 40, false);
                x.fill(1, 0, 0, 40, 40, false);
                x.fill(0, 16, 16, 4, 1, true);
                x.fill(1, 16, 17, 4, 1, true);
                dots(x, 0, 18, 30, 30, 18);
                x.copy(0, 1, away, 0);
                configure(x, "search=16");
                due(shift(x), away + ",0");
                x.copy(0, 1, 0, away);
                due(shift(x), "0," + away);
            }
            // Both stages for one cell: a cell of ink in the same cell, and one pixel at exactly 3 and at 4.
            for (int away = 3; away <= 4; away++) {
                for (int way = -1; way <= 1; way += 2) {
                    ScanCompare y = new ScanCompare(40, 40);
                    y.fill(0, 18, 18, 1, 1, true);
                    y.fill(1, 18 + way * away, 18, 1, 1, true);
                    configure(y, "search=3");
                    due(shift(y), (away == 3 ? way * 3 : 0) + ",0");
                    y.copy(0, 1, 0, way * away);
                    due(shift(y), "0," + (away == 3 ? way * 3 : 0));
                }
            }
            // All cells of a row have equally much ink, so that no cell is better than the one at the same place.
            for (int way = -1; way <= 1; way += 2) {
                ScanCompare y = new ScanCompare(32, 32);
                ScanCompare z = new ScanCompare(32, 32);
                for (int k = 0; k < 32; k++) {
                    int at = 4 * (k / 4) + (k * k / 3 + k / 5) % 4;
                    int row = 16 + k % 4;
                    dots(y, 0, at, row);
                    dots(y, 1, Math.floorMod(at + 4 * way, 32), row);
                    dots(z, 0, row, at);
                    dots(z, 1, row, Math.floorMod(at + 4 * way, 32));
                }
                y.compare();
                due(Math.abs(y.shiftX()) < 4 && Math.abs(y.shiftY()) < 4, true);
                due(y.mismatchAt(4 * way, 0) < y.mismatch(), true);
                z.compare();
                due(Math.abs(z.shiftX()) < 4 && Math.abs(z.shiftY()) < 4, true);
                due(z.mismatchAt(0, 4 * way) < z.mismatch(), true);
            }
            // A better shift, 4 columns away from the cell that the coarse stage chooses.
            ScanCompare z = new ScanCompare(32, 32);
            z.fill(0, 10, 8, 4, 4, true);
            z.fill(1, 8, 8, 4, 4, true);
            z.fill(1, 12, 8, 1, 4, true);
            due(shift(z) + " " + z.mismatch(), "-1,0 4");
        });
        says("and |dx| and |dy| at most search, the one with the least mismatch is chosen;", () -> {
            for (int search = 0; search <= 16; search++) {
                for (int way = -1; way <= 1; way += 2) {
                    ScanCompare x = new ScanCompare(64, 64);
                    configure(x, "search=" + search);
                    x.fill(0, 28, 28, 4, 4, true);
                    x.copy(0, 1, way * search, 0);
                    due(shift(x) + " " + x.mismatch(), way * search + ",0 0");
                    x.copy(0, 1, 0, way * search);
                    due(shift(x) + " " + x.mismatch(), "0," + way * search + " 0");
                    x.copy(0, 1, way * (search + 1), way * (search + 1));
                    x.compare();
                    due(Math.abs(x.shiftX()) <= search && Math.abs(x.shiftY()) <= search, true);
                }
            }
        });
        says("of several, the one with the least |dx| + |dy|, then the one with the least dy, then the one with the"
            + " least dx.", () -> {
            due(shift(dotsAway(2, 2, 3, 0)), "3,0");
            due(shift(dotsAway(2, 2, 0, -3)), "0,-3");
            due(shift(dotsAway(-2, 0, 1, 1)), "-2,0");
            due(shift(dotsAway(2, 0, -1, 1)), "2,0");
            due(shift(dotsAway(2, 0, -1, -1)), "-1,-1");
            due(shift(dotsAway(0, 2, 2, 0, 0, -2, -2, 0)), "0,-2");
            due(shift(dotsAway(0, 2, 2, 0, -2, 0)), "-2,0");
            due(shift(dotsAway(0, 2, 1, 1, -1, 1)), "-1,1");
            due(shift(dotsAway(1, 1, -1, -1)), "-1,-1");
            due(shift(dotsAway(0, 0, -1, 0)), "0,0");
            due(shift(dotsAway()), "0,0");
        });
    }

    /** As cellsAway, but with single pixels, whose shift is found by the fine stage alone. */
    private static ScanCompare dotsAway(int... aways) {
        ScanCompare x = new ScanCompare(32, 32);
        configure(x, "search=3");
        dots(x, 0, 16, 16);
        for (int i = 0; i + 1 < aways.length; i += 2) {
            dots(x, 1, 16 + aways[i], 16 + aways[i + 1]);
        }
        return x;
    }

    private static void choice() {
        says("Of all t and s, the one whose shift has the least mismatch is chosen;", () -> {
            ScanCompare x = new ScanCompare(64, 64);
            configure(x, "search=0;skew=2;turn=on");
            x.fill(1, 30, 0, 1, 64, true);
            x.fill(1, 40, 5, 3, 1, true);
            for (int y = 0; y < 64; y++) {
                dots(x, 0, 33 - (int) Math.floor(-2 * y / 16.0), y);
            }
            x.fill(0, 21 + 8, 58, 3, 1, true);
            x.compare();
            due(x.turned() + " " + x.skew(), "true -2");
        });
        says("of several, t = 0 before t = 1", () -> {
            ScanCompare x = new ScanCompare(16, 16);
            configure(x, "turn=on");
            x.fill(0, 7, 7, 2, 2, true);
            x.copy(0, 1, 0, 0);
            x.compare();
            due(x.turned(), false);
            // Also before a lesser skew.
            ScanCompare y = new ScanCompare(64, 64);
            configure(y, "turn=on;skew=2;search=0");
            dots(y, 0, 31, 16);
            dots(y, 1, 33, 16, 32, 47);
            y.compare();
            due(y.turned() + " " + y.skew() + " " + y.mismatch(), "false 2 1");
            dots(y, 1, 33, 16);
            y.fill(1, 33, 16, 1, 1, false);
            y.compare();
            due(y.turned() + " " + y.skew() + " " + y.mismatch(), "true 0 0");
        });
        says("then the least |s|, then the negative s.", () -> {
            ScanCompare x = new ScanCompare(64, 64);
            configure(x, "turn=on;skew=2;search=0");
            x.compare();
            due(x.skew(), 0);
            // In row 16 a skew s is a shift by s columns.
            dots(x, 0, 31, 16);
            int[][] tries = {{-2, 2, -2}, {-1, 1, -1}, {-2, 1, 1}, {-1, 2, -1}, {0, -1, 0}, {-2, -2, -2}, {2, 2, 2}};
            for (int[] t : tries) {
                x.fill(1, 0, 0, 64, 64, false);
                dots(x, 1, 31 + t[0], 16, 31 + t[1], 16);
                x.compare();
                due(x.skew() + " " + x.turned(), t[2] + " false");
            }
        });
    }

    // ---- differences, blocks, regions

    /** The differences of all blocks together. */
    private static int differences(ScanCompare x, int columns, int rows) {
        x.compare();
        int sum = 0;
        for (int j = 0; j < rows; j++) {
            for (int i = 0; i < columns; i++) {
                sum += x.blockDifference(i, j);
            }
        }
        return sum;
    }

    private static void jitters(String sentence, int page) {
        says(sentence, () -> {
            for (int jitter = 0; jitter <= 2; jitter++) {
                for (int k = 0; k < 49; k++) {
                    int dx = k % 7 - 3;
                    int dy = k / 7 - 3;
                    ScanCompare x = plain(32, 32);
                    configure(x, "block=16;jitter=" + jitter);
                    dots(x, page, 15, 15);
                    dots(x, 1 - page, 15 + dx, 15 + dy);
                    boolean near = Math.abs(dx) <= jitter && Math.abs(dy) <= jitter;
                    due(differences(x, 2, 2), near ? 0 : 2);
                    // One of them is not enough for a second pixel that is too far away.
                    dots(x, page, 15 - dx, 15 - dy);
                    if (Math.abs(2 * dx) > jitter || Math.abs(2 * dy) > jitter) {
                        due(differences(x, 2, 2), near ? 1 : 3);
                    }
                }
            }
        });
    }

    private static void differences() {
        jitters("An ink pixel (x, y) of O is missing if A has no ink pixel that differs from (x, y) by at most"
            + " jitter in x and by at most jitter in y.", 0);
        jitters("An ink pixel (x, y) of A is added if O has no such ink pixel.", 1);
        says("is missing if A has no ink pixel", () -> {
            // The edges of a row don't touch, and what the shift moves off the page is not there.
            for (int w : new int[] {8, 64}) {
                ScanCompare x = plain(w, 16);
                configure(x, "jitter=2");
                dots(x, 0, 0, 8);
                dots(x, 1, w - 1, 8, w - 1, 7, w - 1, 9);
                due(differences(x, w / 4, 4), 4);
            }
            ScanCompare y = new ScanCompare(32, 32);
            configure(y, "block=4;noise=0;jitter=2;search=4");
            y.fill(0, 8, 8, 8, 8, true);
            y.copy(0, 1, 4, 0);
            dots(y, 0, 31, 2);
            dots(y, 1, 1, 2);
            y.compare();
            due(report(y), "shift 4,0 skew 0\n1 change\nremoved 1 at 31,2 size 1x1\n");
        });
        says("Pixels in a mask are neither missing nor added.", () -> {
            ScanCompare x = plain(32, 32);
            dots(x, 0, 5, 6);
            dots(x, 1, 20, 21);
            int[][] masks = {{5, 6, 1, 1, 1}, {20, 21, 1, 1, 1}, {4, 6, 1, 1, 2}, {6, 6, 1, 1, 2}, {5, 5, 1, 1, 2},
                {5, 7, 1, 1, 2}, {0, 0, 5, 32, 2}, {0, 0, 6, 32, 1}, {0, 0, 32, 6, 2}, {0, 0, 32, 7, 1},
                {21, 0, 11, 32, 2}, {20, 0, 12, 32, 1}, {0, 22, 32, 10, 2}, {0, 21, 32, 11, 1}, {5, 6, 16, 16, 0},
                {0, 0, 32, 32, 0}};
            for (int[] m : masks) {
                due(x.addMask(m[0], m[1], m[2], m[3]), 1);
                due(differences(x, 8, 8), m[4]);
                x.removeMask(0);
            }
            // The ink in a mask is still there for the pixels near it.
            ScanCompare y = plain(16, 16);
            configure(y, "jitter=1");
            dots(y, 0, 8, 8);
            dots(y, 1, 9, 9);
            y.addMask(9, 9, 1, 1);
            due(differences(y, 4, 4), 0);
            y.removeMask(0);
            y.addMask(8, 8, 1, 1);
            due(differences(y, 4, 4), 0);
            due(y.mismatch(), 2);
        });
    }

    private static void blocks() {
        says("there are ceil(W / B) columns and ceil(H / B) rows of blocks.", () -> {
            for (int side : new int[] {4, 5, 8, 15, 16}) {
                for (int size : new int[] {8, 9, 15, 16, 17, 63, 64}) {
                    ScanCompare x = plain(size, 72 - size);
                    configure(x, "block=" + side);
                    dots(x, 1, size - 1, 71 - size);
                    x.compare();
                    int columns = (size + side - 1) / side;
                    int rows = (72 - size + side - 1) / side;
                    due(x.blockDifference(columns - 1, rows - 1), 1);
                    due(x.blockDifference(0, 0), columns * rows == 1 ? 1 : 0);
                    thrown(INDEX, () -> x.blockDifference(columns, 0), () -> x.blockDifference(0, rows),
                        () -> x.blockDifference(-1, 0), () -> x.blockDifference(0, -1));
                }
            }
        });
        says("block (i, j) contains the pixels of the page with B * i <= x < B * i + B and B * j <= y < B * j + B",
            () -> {
            ScanCompare x = plain(24, 24);
            configure(x, "block=8");
            dots(x, 1, 7, 7, 8, 7, 7, 8, 8, 8, 15, 15, 16, 15, 15, 16, 16, 16);
            x.compare();
            due(x.blockDifference(0, 0) + " " + x.blockDifference(1, 0) + " " + x.blockDifference(0, 1) + " "
                + x.blockDifference(1, 1) + " " + x.blockDifference(2, 1) + " " + x.blockDifference(1, 2) + " "
                + x.blockDifference(2, 2) + " " + x.blockDifference(2, 0), "1 1 1 2 1 1 1 0");
        });
        says("The difference of a block is the number of its pixels that are missing or added.", () -> {
            ScanCompare x = plain(16, 16);
            configure(x, "block=16");
            x.compare();
            due(x.blockDifference(0, 0), 0);
            x.fill(0, 0, 0, 16, 8, true);
            x.fill(1, 0, 8, 16, 8, true);
            x.compare();
            due(x.blockDifference(0, 0), 256);
        });
        says("A block is changed if its difference is greater than noise.", () -> {
            ScanCompare x = plain(16, 16);
            for (int pixels = 0; pixels <= 4; pixels++) {
                for (int noise = 0; noise <= 4; noise++) {
                    x.setRow(1, 5, (1L << pixels) - 1);
                    configure(x, "noise=" + noise);
                    x.compare();
                    due(x.regions(), pixels > noise ? 1 : 0);
                }
            }
            configure(x, "block=16;noise=255");
            x.fill(1, 0, 0, 16, 16, true);
            x.compare();
            due(x.regions(), 1);
            configure(x, "noise=256");
            x.compare();
            due(x.regions(), 0);
        });
    }

    private static void regions() {
        says("Two blocks are adjacent if they share a side.", () -> {
            for (int k = 0; k < 9; k++) {
                ScanCompare x = plain(32, 32);
                dots(x, 1, 13, 13, 13 + 4 * (k % 3 - 1), 13 + 4 * (k / 3 - 1));
                x.compare();
                due(x.regions(), k % 2 == 0 && k != 4 ? 2 : 1);
            }
            // Blocks that are reached from the one right of them, or from the one below.
            ScanCompare hook = plain(32, 32);
            dots(hook, 1, 8, 0, 8, 4, 4, 4);
            hook.compare();
            due(hook.regions(), 1);
            dots(hook, 1, 4, 20, 4, 24, 8, 24, 8, 20);
            hook.compare();
            due(hook.regions(), 2);
            ScanCompare gap = plain(32, 32);
            dots(gap, 1, 8, 0, 8, 4, 0, 4, 0, 20, 0, 24, 4, 24, 8, 24, 8, 16);
            gap.compare();
            due(gap.regions(), 4);
            // The last block of a row and the first one of the next do not share one.
            for (int w : new int[] {8, 10, 64}) {
                ScanCompare x = plain(w, 16);
                dots(x, 1, w - 1, 1, 0, 5);
                x.compare();
                due(x.regions(), 2);
                if (w > 8) {
                    dots(x, 1, 0, 1);
                    x.compare();
                    due(x.regions(), 2);
                }
            }
        });
        says("A region is a maximal set of changed blocks that are connected by adjacent blocks.", () -> {
            ScanCompare x = plain(64, 64);
            x.compare();
            due(x.regions(), 0);
            x.fill(1, 0, 0, 64, 64, true);
            x.compare();
            due(x.regions() + " " + box(x, 0) + " " + x.addedPixels(0), "1 0,0,63,63 4096");
            // A comb whose teeth meet in the last row of blocks.
            ScanCompare comb = plain(64, 64);
            for (int k = 0; k < 64; k += 8) {
                comb.fill(1, k, k / 2, 1, 64, true);
            }
            comb.setRow(1, 63, -1L);
            comb.compare();
            due(comb.regions(), 1);
            comb.fill(1, 28, 63, 4, 1, false);
            comb.compare();
            due(comb.regions(), 2);
        });
        says("Its box is the smallest rectangle that contains all missing and added pixels of its blocks.", () -> {
            ScanCompare x = plain(64, 64);
            dots(x, 1, 63, 63);
            x.compare();
            due(box(x, 0), "63,63,63,63");
            dots(x, 0, 0, 0);
            x.compare();
            due(box(x, 0) + " " + box(x, 1), "0,0,0,0 63,63,63,63");
            // Missing and added ones together, but none of a block that is not changed.
            ScanCompare y = plain(16, 16);
            configure(y, "noise=1");
            dots(y, 0, 5, 7, 6, 6);
            dots(y, 1, 8, 5, 9, 6, 4, 8, 3, 5);
            y.compare();
            due(y.regions() + " " + box(y, 0), "1 5,5,9,7");
            due(y.missingPixels(0) + " " + y.addedPixels(0), "2 2");
            y.copy(0, 2, 0, 0);
            y.copy(1, 0, 0, 0);
            y.copy(2, 1, 0, 0);
            y.compare();
            due(y.regions() + " " + box(y, 0), "1 5,5,9,7");
            // The removed or the added part alone reaches each side of the box.
            ScanCompare z = plain(16, 16);
            z.fill(0, 4, 4, 8, 8, true);
            z.fill(0, 5, 5, 6, 6, false);
            dots(z, 1, 6, 6, 9, 9);
            z.compare();
            due(z.regions() + " " + box(z, 0), "1 4,4,11,11");
            z.copy(0, 2, 0, 0);
            z.copy(1, 0, 0, 0);
            z.copy(2, 1, 0, 0);
            z.compare();
            due(z.regions() + " " + box(z, 0), "1 4,4,11,11");
        });
        says("Regions are found in the order of their first blocks, row of blocks by row of blocks, each from left"
            + " to right.", () -> {
            // Two regions with the same top and left: one in the corner, and one that goes around it.
            ScanCompare x = around(plain(32, 32));
            x.compare();
            due(x.regions() + " " + box(x, 0) + " " + box(x, 1), "2 0,0,0,0 0,0,8,8");
            configure(x, "order=columns");
            x.compare();
            due(box(x, 0) + " " + box(x, 1), "0,0,0,0 0,0,8,8");
        });
    }

    private static ScanCompare around(ScanCompare x) {
        dots(x, 1, 0, 0, 8, 0, 8, 4, 8, 8, 4, 8, 0, 8);
        return x;
    }

    // ---- reading order

    /** Tests an order of regions in rows, and the mirrored one in columns. */
    private static void ordered(String want, int... rectangles) {
        ScanCompare x = plain(64, 64);
        ScanCompare y = plain(64, 64);
        configure(y, "order=columns");
        for (int i = 0; i + 3 < rectangles.length; i += 4) {
            x.fill(1, rectangles[i], rectangles[i + 1], rectangles[i + 2], rectangles[i + 3], true);
            y.fill(1, rectangles[i + 1], rectangles[i], rectangles[i + 3], rectangles[i + 2], true);
        }
        due(corners(x), want);
        StringBuilder mirrored = new StringBuilder();
        for (String corner : want.isEmpty() ? new String[0] : want.split(" ")) {
            String[] place = corner.split(",");
            mirrored.append(place[1]).append(',').append(place[0]).append(' ');
        }
        due(corners(y), mirrored);
    }

    private static void bands() {
        says("With order = rows the regions are sorted by the top of their boxes, then by the left, then as they"
            + " were found.", () -> {
            ordered("");
            ordered("63,63 ", 63, 63, 1, 1);
            ordered("40,1 0,2 20,20 0,40 ", 0, 2, 1, 1, 40, 1, 1, 1, 20, 20, 1, 1, 0, 40, 1, 1);
            // Equal tops, which are one band in any case.
            ordered("0,3 20,3 40,3 ", 40, 3, 1, 1, 0, 3, 1, 1, 20, 3, 1, 1);
        });
        says("the first region begins a band, whose end is the bottom of its box;", () -> {
            ordered("0,9 40,0 ", 40, 0, 1, 10, 0, 9, 1, 1);
            ordered("40,0 0,10 ", 40, 0, 1, 10, 0, 10, 1, 1);
            ordered("0,0 40,0 ", 40, 0, 1, 1, 0, 0, 1, 1);
            ordered("40,0 0,1 ", 40, 0, 1, 1, 0, 1, 1, 1);
        });
        says("each further region belongs to the current band if the top of its box is at most the end of the band",
            () -> {
            ordered("0,25 40,20 ", 40, 20, 1, 6, 0, 25, 1, 1);
            ordered("40,20 0,26 ", 40, 20, 1, 6, 0, 26, 1, 1);
            ordered("0,63 40,20 ", 40, 20, 1, 44, 0, 63, 1, 1);
        });
        says("the end of the band becomes the bottom of its box if that is greater;", () -> {
            // The second one makes the band longer, so that the third one joins it.
            ordered("0,14 20,5 40,0 ", 40, 0, 1, 6, 20, 5, 1, 10, 0, 14, 1, 1);
            ordered("20,5 40,0 0,15 ", 40, 0, 1, 6, 20, 5, 1, 10, 0, 15, 1, 1);
            // The second one is shorter, and the band keeps its end.
            ordered("0,14 20,5 40,0 ", 40, 0, 1, 15, 20, 5, 1, 2, 0, 14, 1, 1);
            ordered("20,5 40,0 0,15 ", 40, 0, 1, 15, 20, 5, 1, 2, 0, 15, 1, 1);
        });
        says("otherwise it begins a new band.", () -> {
            // The end of the new band is its own bottom, not that of the band before.
            ordered("40,0 20,30 0,40 ", 40, 0, 1, 20, 20, 30, 1, 4, 0, 40, 1, 1);
            ordered("40,0 0,33 20,30 ", 40, 0, 1, 20, 20, 30, 1, 4, 0, 33, 1, 1);
            ordered("40,0 20,30 0,34 ", 40, 0, 1, 20, 20, 30, 1, 4, 0, 34, 1, 1);
        });
    }

    private static void regionOrder() {
        says("Within a band, the regions are then sorted by the left of their boxes, then by the top, then as they"
            + " were found.", () -> {
            ordered("3,30 20,9 21,0 40,0 ", 40, 0, 1, 40, 21, 0, 1, 2, 20, 9, 1, 1, 3, 30, 1, 1);
            ordered("4,8 4,20 24,0 ", 24, 0, 2, 30, 4, 20, 2, 2, 4, 8, 2, 2);
            ordered("0,30 1,20 63,0 ", 63, 0, 1, 40, 1, 20, 1, 1, 0, 30, 1, 1);
            ScanCompare x = around(plain(32, 32));
            x.compare();
            due(x.regionRight(0) + " " + x.regionRight(1), "0 8");
        });
        says("With order = columns the same is done with left and top exchanged, and right and bottom exchanged.",
            () -> {
            ScanCompare x = plain(64, 64);
            x.fill(1, 0, 40, 10, 1, true);
            dots(x, 1, 9, 0, 10, 8);
            due(corners(x), "9,0 10,8 0,40 ");
            configure(x, "order=columns");
            due(corners(x), "9,0 0,40 10,8 ");
        });
        says("The regions are numbered from 0, band by band, in this sequence.", () -> {
            ScanCompare x = plain(32, 32);
            dots(x, 1, 24, 1, 0, 1, 8, 28, 16, 0);
            x.compare();
            due(x.regionAt(16, 0) + " " + x.regionAt(0, 0) + " " + x.regionAt(24, 0) + " " + x.regionAt(8, 28),
                "0 1 2 3");
            due(x.regionAt(8, 0), -1);
            thrown(INDEX, () -> x.regionLeft(4), () -> x.regionLeft(-1));
        });
    }

    // ---- parts, moves, changes

    private static void parts() {
        says("a region with none of them does not have this part.", () -> {
            ScanCompare x = plain(16, 16);
            dots(x, 0, 1, 1);
            dots(x, 1, 9, 9, 10, 9);
            x.compare();
            due(changesOf(x), "-0 +1 ");
            due(x.missingPixels(0) + " " + x.addedPixels(0), "1 0");
            due(x.missingPixels(1) + " " + x.addedPixels(1), "0 2");
        });
        says("The box of a part is the smallest rectangle that contains its pixels.", () -> {
            ScanCompare x = plain(16, 16);
            dots(x, 0, 0, 0, 2, 1);
            dots(x, 1, 3, 3);
            x.compare();
            due(box(x, 0), "0,0,3,3");
            due(report(x), "shift 0,0 skew 0\n2 changes\nremoved 2 at 0,0 size 3x2\nadded 1 at 3,3 size 1x1\n");
            ScanCompare y = plain(64, 64);
            y.fill(0, 0, 0, 64, 64, true);
            y.compare();
            due(report(y), "shift 0,0 skew 0\n1 change\nremoved 4096 at 0,0 size 64x64\n");
        });
        says("Two parts have the same shape if their boxes have the same width and height and the same pixels", () -> {
            // Removed and added pixels from the top left corners of their blocks on.
            String[][] alike = {{"#"}, {"##"}, {"#", "#"}, {"#.#", ".#.", "#.#"}, {".#", "#"}};
            for (String[] shape : alike) {
                due(pairing(shape, shape), "*0>1 ");
            }
            due(pairing(new String[] {".##"}, new String[] {"##"}), "*0>1 ");
            due(pairing(new String[] {"", ".#", ".#"}, new String[] {"..#", "..#"}), "*0>1 ");
            due(pairing(new String[] {"##"}, new String[] {"#", "#"}), "-0 +1 ");
            due(pairing(new String[] {"##"}, new String[] {"###"}), "-0 +1 ");
            due(pairing(new String[] {"###"}, new String[] {"##"}), "-0 +1 ");
            due(pairing(new String[] {"##"}, new String[] {"#.#"}), "-0 +1 ");
            due(pairing(new String[] {"#", "#"}, new String[] {"#", "", "#"}), "-0 +1 ");
            due(pairing(new String[] {"##", "#"}, new String[] {"##", ".#"}), "-0 +1 ");
            due(pairing(new String[] {"#.", "##"}, new String[] {".#", "##"}), "-0 +1 ");
            due(pairing(new String[] {"##", "##"}, new String[] {"##", "#"}), "-0 +1 ");
            due(pairing(new String[] {"#.", ".#"}, new String[] {".#", "#."}), "-0 +1 ");
        });
    }

    /** The changes of a page with one shape that is removed and one that is added. */
    private static String pairing(String[] removed, String[] added) {
        ScanCompare x = plain(64, 64);
        draw(x, 0, removed);
        draw(x, 1, added);
        x.copy(1, 1, 40, 40);
        x.compare();
        return changesOf(x);
    }

    private static void moves() {
        says("The removed parts with at least as many pixels as the setting pair says", () -> {
            ScanCompare x = plain(64, 64);
            for (int pixels = 1; pixels <= 6; pixels++) {
                x.setRow(0, 0, (1L << pixels) - 1);
                x.setRow(1, 60, (1L << pixels) - 1);
                for (int pair = 1; pair <= 7; pair++) {
                    configure(x, "pair=" + pair);
                    x.compare();
                    due(changesOf(x), pixels >= pair ? "*0>1 " : "-0 +1 ");
                }
            }
            ScanCompare y = plain(64, 64);
            configure(y, "pair=99");
            y.fill(0, 0, 0, 11, 9, true);
            y.fill(1, 40, 40, 11, 9, true);
            y.compare();
            due(changesOf(y), "*0>1 ");
            dots(y, 0, 0, 0);
            y.fill(0, 0, 0, 1, 1, false);
            y.fill(1, 40, 40, 1, 1, false);
            y.compare();
            due(changesOf(y), "-0 +1 ");
        });
        says("are taken in the order of their regions;", () -> {
            ScanCompare x = plain(32, 32);
            dots(x, 0, 20, 0, 0, 8);
            dots(x, 1, 4, 20, 24, 28);
            x.compare();
            due(changesOf(x) + x.moveX(0) + "," + x.moveY(0), "*0>2 *1>3 -16,20");
            configure(x, "order=columns");
            x.compare();
            due(changesOf(x) + x.moveX(0) + "," + x.moveY(0), "*0>1 *2>3 4,12");
            // One added part, for the first removed part alone.
            x.fill(1, 4, 20, 1, 1, false);
            x.compare();
            due(changesOf(x), "*0>2 -1 ");
            configure(x, "order=rows");
            x.compare();
            due(changesOf(x), "*0>2 -1 ");
        });
        says("is not paired yet and whose region has the least number (it may be the same region), if there is one.",
            () -> {
            ScanCompare x = plain(32, 32);
            dots(x, 1, 1, 0);
            dots(x, 0, 1, 20);
            dots(x, 1, 2, 21, 20, 28);
            x.compare();
            due(changesOf(x), "*1>0 +1 +2 ");
            dots(x, 0, 20, 20);
            x.compare();
            due(changesOf(x), "*1>0 *2>1 +3 ");
            // The same region, if no other one comes before it.
            ScanCompare y = plain(32, 32);
            dots(y, 0, 1, 1, 1, 20);
            dots(y, 1, 3, 3, 3, 22);
            y.compare();
            due(changesOf(y), "*0>0 *1>1 ");
            due(y.moveX(0) + "," + y.moveY(0), "2,2");
            // None of the same shape.
            ScanCompare z = plain(32, 32);
            dots(z, 0, 1, 1);
            z.compare();
            due(changesOf(z), "-0 ");
        });
    }

    private static void changes() {
        says("first the removed part of the region, as a move if it is paired, otherwise as a removal; then its"
            + " added part, as an addition, unless it is paired.", () -> {
            ScanCompare x = plain(32, 32);
            dots(x, 0, 1, 1);
            dots(x, 1, 0, 0, 2, 0);
            dots(x, 0, 17, 1, 18, 1, 20, 1);
            dots(x, 1, 1, 17);
            x.compare();
            // The box of region 0 begins at column 0, that of region 2 at row 17.
            due(changesOf(x), "*0>2 +0 -1 ");
            configure(x, "pair=2");
            x.compare();
            due(changesOf(x), "-0 +0 -1 +2 ");
        });
        says("If stamps is hide, removals and additions whose shape is that of a known stamp are left out.", () -> {
            ScanCompare x = hidden();
            due(changesOf(x), "-0 *1>2 +3 -4 ");
            x.learn(0);
            x.compare();
            due(changesOf(x), "-0 *1>2 +3 -4 ");
            configure(x, "stamps=hide");
            x.compare();
            due(changesOf(x) + x.regions(), "*1>2 +3 5");
            x.learn(0);
            x.learn(1);
            x.compare();
            due(changesOf(x) + x.regions(), "*1>2 5");
            // Unpaired, the parts of the move are left out too.
            configure(x, "pair=99");
            x.compare();
            due(changesOf(x) + x.regions() + " " + x.changes(), "5 0");
            due(report(x), "shift 0,0 skew 0\n0 changes\n");
        });
        says("Changes are numbered from 0.", () -> {
            ScanCompare x = compared();
            due(x.changeKind(0) + " " + x.changeKind(2), "1 2");
            thrown(INDEX, () -> x.changeKind(-1), () -> x.changeKind(3));
        });
    }

    /** Two equal bars removed, a square moved and a longer bar added. */
    private static ScanCompare hidden() {
        ScanCompare x = plain(64, 64);
        x.fill(0, 0, 0, 3, 1, true);
        x.fill(0, 0, 8, 2, 2, true);
        x.fill(1, 0, 16, 2, 2, true);
        x.fill(1, 0, 24, 4, 1, true);
        x.fill(0, 0, 32, 3, 1, true);
        x.compare();
        return x;
    }

    private static void stamps() {
        says("There are at most 7 known stamps, numbered from 0; a stamp is a shape.", () -> {
            ScanCompare x = bars();
            for (int k = 0; k < 7; k++) {
                due(x.learn(k), k);
            }
            thrown(STATE, () -> x.learn(7));
            due(x.stampOf(6) + " " + x.stampOf(7), "6 -1");
            // The shape alone counts, not the place, nor whether it is removed or added.
            due(x.changeKind(8) + " " + x.stampOf(8), "1 2");
            due(x.learn(8), 2);
        });
    }

    /** Eight bars of the widths 1 to 8 are added, and then one of width 3 is removed. */
    private static ScanCompare bars() {
        ScanCompare x = plain(64, 64);
        configure(x, "pair=99");
        for (int k = 0; k < 8; k++) {
            x.fill(1, k % 4 * 16, k / 4 * 16, k + 1, 1, true);
        }
        x.fill(0, 30, 48, 3, 1, true);
        x.compare();
        return x;
    }

    // ---- results, history, exceptions

    private static void results() {
        says("They stay the same, whatever is done with pages, settings, masks and stamps, until the next"
            + " comparison.", () -> {
            ScanCompare x = compared();
            String before = resultsOf(x);
            for (Consumer<ScanCompare> step : steps()) {
                step.accept(x);
                due(resultsOf(x), before);
            }
            x.compare();
            due(resultsOf(x).equals(before), false);
        });
    }

    /** A call of each kind that changes something. */
    private static List<Consumer<ScanCompare>> steps() {
        return List.of(x -> x.fill(0, 3, 3, 20, 20, true), x -> x.setRow(1, 0, -1L), x -> x.copy(0, 1, 3, 3),
            x -> x.merge(0), x -> x.flip(0, 2), x -> x.despeckle(1, 64), x -> paste(x, 0, 0, 0, "40o$40o!"),
            x -> x.accept(2), x -> x.undo(), x -> x.undo(), x -> x.learn(0), x -> x.learn(1), x -> x.learn(2),
            x -> x.forgetStamp(0), x -> x.addMask(0, 0, 32, 20), x -> x.addMask(0, 0, 1, 1), x -> x.removeMask(1),
            x -> configure(x, "block=5;noise=9;jitter=2;speckle=4;search=2;skew=2"),
            x -> configure(x, "turn=on;order=columns;pair=9;stamps=hide"));
    }

    private static String resultsOf(ScanCompare x) {
        StringBuilder all = new StringBuilder(report(x));
        all.append(x.shiftX()).append(x.shiftY()).append(x.skew()).append(x.turned()).append(x.mismatch());
        all.append(' ').append(x.similarity()).append(' ').append(x.mismatchAt(1, -1)).append(x.regions());
        for (int k = 0; k < 16; k++) {
            all.append(' ').append(x.blockDifference(k % 4, k / 4)).append(x.regionAt(k % 4 * 8, k / 4 * 8));
        }
        for (int r = 0; r < x.regions(); r++) {
            all.append(' ').append(box(x, r)).append(' ').append(x.missingPixels(r)).append(x.addedPixels(r));
        }
        all.append(changesOf(x)).append(x.changes());
        for (int c = 0; c < x.changes(); c++) {
            all.append(' ').append(x.moveX(c)).append(x.moveY(c)).append(x.changePixels(c)).append(x.changeLine(c));
        }
        for (int n = 0; n < 5; n++) {
            all.append(' ').append(x.leastNoise(n));
        }
        return all.toString();
    }

    private static void edits() {
        says("that throws no exception is an edit, even if no pixel changes;", () -> {
            ScanCompare blank = new ScanCompare(8, 8);
            due(blank.setRow(0, 0, 0), 0);
            due(blank.fill(0, 0, 0, 0, 0, true), 0);
            due(blank.copy(0, 0, 0, 0), 0);
            due(blank.merge(0), 0);
            due(blank.flip(0, 0), 0);
            due(blank.despeckle(0, 0), 0);
            due(blank.undo(), 5);
            ScanCompare twice = compared();
            twice.copy(0, 0, 0, 0);
            due(twice.accept(0), 9);
            due(twice.accept(0), 0);
            due(twice.undo() + " " + twice.ink(0, 1, 1, 3, 3), "7 0");
            due(twice.undo() + " " + twice.ink(0, 1, 1, 3, 3), "6 9");
        });
        says("so is each call of paste() without an error in the text.", () -> {
            ScanCompare x = new ScanCompare(8, 8);
            due(paste(x, 0, 0, 0, "!"), 0);
            due(paste(x, 0, 0, 0, "o!"), 1);
            due(paste(x, 0, 0, 0, "o"), -2);
            due(paste(x, 0, 0, 0, "65o!"), -1);
            due(x.undo(), 1);
            due(x.undo(), 0);
            thrown(STATE, x::undo);
        });
    }

    private static void history() {
        says("A history of at most 8 states is kept: each edit adds the state before it, and if there are 8"
            + " already, the oldest one is dropped;", () -> {
            for (int edits = 0; edits <= 20; edits++) {
                ScanCompare x = new ScanCompare(8, 8);
                for (int k = 1; k <= edits; k++) {
                    due(x.setRow(k % 4, 1, k) > 0, true);
                }
                for (int left = Math.min(8, edits) - 1; left >= 0; left--) {
                    due(x.undo(), left);
                }
                thrown(STATE, x::undo);
                for (int p = 0; p < 4; p++) {
                    int last = 0;
                    for (int k = 1; k <= edits - 8; k++) {
                        last = k % 4 == p ? k : last;
                    }
                    due(x.row(p, 1), last);
                }
            }
        });
        says("undo() removes the latest state and restores it.", () -> {
            ScanCompare x = new ScanCompare(8, 8);
            x.setRow(0, 7, 1);
            x.setRow(0, 7, 2);
            x.setRow(3, 0, 3);
            due(x.undo() + " " + x.row(0, 7) + " " + x.row(3, 0), "2 2 0");
            due(x.undo() + " " + x.row(0, 7), "1 1");
            x.setRow(0, 7, 9);
            due(x.undo() + " " + x.row(0, 7), "1 1");
            due(x.undo() + " " + x.row(0, 7), "0 0");
        });
        says("Only pages are affected by this.", () -> {
            ScanCompare x = compared();
            due(paste(x, 0, 0, 0, "9o!"), 9);
            x.learn(0);
            x.addMask(0, 0, 1, 1);
            configure(x, "noise=9");
            type(x, "noise");
            String before = resultsOf(x);
            for (int left = 7; left >= 0; left--) {
                due(x.undo(), left);
            }
            due(x.clearText() + " " + x.setting(1) + " " + description(x) + " " + x.stampOf(0), "5 9 noise=9 0");
            due(resultsOf(x), before);
            due(x.removeMask(0), 0);
            due(x.forgetStamp(0), 0);
        });
    }

    private static void exceptions() {
        says("A call that throws an exception changes nothing.", () -> {
            ScanCompare x = busy();
            refused(x);
            due(everything(x), everything(busy()));
            ScanCompare fresh = new ScanCompare(32, 32);
            refusedWithoutComparison(fresh);
            due(everything(fresh), everything(new ScanCompare(32, 32)));
        });
        says("If several exceptions apply to a call, the one that is listed first is thrown.", () -> {
            ScanCompare x = busy();
            thrown(INDEX, () -> x.fill(4, 0, 0, -1, -1, true), () -> x.flip(-1, 3), () -> x.despeckle(4, 65),
                () -> x.words(4, 0, 0), () -> x.words(0, 99, 0), () -> x.words(0, -1, 65),
                () -> x.ink(-1, 0, 0, -1, 0), () -> x.learn(-1), () -> x.learn(99));
            thrown(ARGUMENT, () -> x.type(31), () -> x.type(127), () -> x.addMask(0, 0, 0, 0),
                () -> x.addMask(-1, 0, 1, 1));
            ScanCompare fresh = new ScanCompare(8, 8);
            thrown(INDEX, () -> fresh.learn(-1), () -> fresh.learn(0));
            refusedWithoutComparison(fresh);
        });
    }

    /** A text, masks and stamps that are full, a comparison with a change more, and edits. */
    private static ScanCompare busy() {
        ScanCompare x = bars();
        for (int k = 0; k < 7; k++) {
            x.learn(k);
        }
        for (int k = 0; k < 6; k++) {
            x.addMask(k, k, 2, 2);
        }
        type(x, OO.repeat(8));
        return x;
    }

    private static void refused(ScanCompare x) {
        thrown(INDEX, () -> x.setRow(4, 0, 1), () -> x.setRow(0, 64, 1), () -> x.setRow(0, -1, 1),
            () -> x.fill(4, 0, 0, 9, 9, true), () -> x.copy(0, 4, 1, 1), () -> x.copy(4, 0, 1, 1), () -> x.merge(4),
            () -> x.flip(4, 0), () -> x.despeckle(4, 9), () -> x.paste(4, 0, 0), () -> x.removeMask(6),
            () -> x.removeMask(-1), () -> x.forgetStamp(7), () -> x.forgetStamp(-1), () -> x.learn(9),
            () -> x.accept(9), () -> x.accept(-1));
        thrown(ARGUMENT, () -> x.fill(0, 0, 0, 9, -1, true), () -> x.flip(0, 3), () -> x.despeckle(0, 65),
            () -> x.type(31), () -> x.addMask(0, 0, 65, 1), () -> x.mismatchAt(17, 0), () -> x.leastNoise(-1));
        thrown(STATE, () -> x.type('o'), () -> x.addMask(0, 0, 1, 1), () -> x.learn(7));
    }

    private static void refusedWithoutComparison(ScanCompare x) {
        thrown(STATE, x::shiftX, x::shiftY, x::skew, x::turned, x::mismatch, x::similarity, x::regions, x::changes,
            () -> x.mismatchAt(17, 0), () -> x.blockDifference(-1, 0), () -> x.regionAt(-1, 0),
            () -> x.regionLeft(-1), () -> x.regionTop(-1), () -> x.regionRight(-1), () -> x.regionBottom(-1),
            () -> x.missingPixels(-1), () -> x.addedPixels(-1), () -> x.changeKind(-1), () -> x.changeRegion(-1),
            () -> x.changeTarget(-1), () -> x.moveX(-1), () -> x.moveY(-1), () -> x.changePixels(-1),
            () -> x.changeLine(-1), () -> x.reportChar(-1), () -> x.stampOf(-1), () -> x.accept(-1),
            () -> x.leastNoise(-1), x::undo);
    }

    /** All that can be seen of an object, which is used up by that. */
    private static String everything(ScanCompare x) {
        StringBuilder all = new StringBuilder();
        all.append(x.clearText()).append(description(x));
        for (int i = 0; i < 10; i++) {
            all.append(' ').append(x.setting(i));
        }
        all.append(outcome(() -> report(x)));
        for (int c = 0; c < 12; c++) {
            int change = c;
            all.append(outcome(() -> x.stampOf(change)));
        }
        x.compare();
        all.append(report(x));
        for (int k = 0; k < 9; k++) {
            all.append(outcome(() -> x.removeMask(0))).append(outcome(() -> x.forgetStamp(0)));
            all.append(prints(x)).append(outcome(x::undo)).append('\n');
        }
        x.compare();
        return all.append(report(x)).toString();
    }
}
