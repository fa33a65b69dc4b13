/** What the tests of the project share: the count of wrong answers, and steps that take several calls. */
class Checks {
    static final int LOW = Integer.MIN_VALUE;
    static final int HIGH = Integer.MAX_VALUE;
    static final String STATE = "IllegalStateException";
    static final String INDEX = "IndexOutOfBoundsException";
    static final String ARGUMENT = "IllegalArgumentException";
    private static final int MOST_TOLD = 100;
    /** What is being tested; it stands before each wrong answer. */
    static String title = "";
    private static int wrong = 0;

    interface Call {
        Object answer();
    }

    static void due(Object got, Object want) {
        if (!String.valueOf(want).equals(String.valueOf(got))) {
            fault("answered " + got + ", due is " + want);
        }
    }

    static void thrown(String want, Call... calls) {
        for (int i = 0; i < calls.length; i++) {
            String got = outcome(calls[i]);
            if (!got.equals(want)) {
                fault("call " + i + ": " + got + ", due is " + want);
            }
        }
    }

    static String outcome(Call call) {
        try {
            return "answer " + call.answer();
        } catch (RuntimeException e) {
            return e.getClass().getSimpleName();
        }
    }

    private static void fault(String what) {
        wrong++;
        if (wrong <= MOST_TOLD) {
            StackTraceElement at = new Throwable().getStackTrace()[2];
            System.out.println(title + ", line " + at.getLineNumber() + ": " + what);
        }
    }

    /** Tests a sentence of the document. */
    static void says(String sentence, Runnable test) {
        title = sentence;
        test.run();
    }

    static void end(String praise) {
        System.out.println(wrong == 0 ? praise : wrong + " answers are not as due");
        if (wrong != 0) {
            System.exit(1);
        }
    }

    static void draw(ScanCompare x, int page, String... rows) {
        for (int y = 0; y < rows.length; y++) {
            long bits = 0;
            for (int k = 0; k < rows[y].length(); k++) {
                if (rows[y].charAt(k) == '#') {
                    bits |= 1L << k;
                }
            }
            x.setRow(page, y, bits);
        }
    }

    /** Makes single pixels ink; they are given as x, y, x, y and so on. */
    static void dots(ScanCompare x, int page, int... places) {
        for (int i = 0; i + 1 < places.length; i += 2) {
            x.fill(page, places[i], places[i + 1], 1, 1, true);
        }
    }

    static int type(ScanCompare x, String text) {
        int length = 0;
        for (char c : text.toCharArray()) {
            length = x.type(c);
        }
        return length;
    }

    static int configure(ScanCompare x, String text) {
        x.clearText();
        type(x, text);
        return x.configure();
    }

    static int paste(ScanCompare x, int page, int left, int top, String text) {
        x.clearText();
        type(x, text);
        return x.paste(page, left, top);
    }

    static String report(ScanCompare x) {
        StringBuilder all = new StringBuilder();
        for (int i = 0; x.reportChar(i) >= 0; i++) {
            all.append((char) x.reportChar(i));
        }
        return all.toString();
    }

    static String description(ScanCompare x) {
        StringBuilder all = new StringBuilder();
        for (int i = 0; x.configChar(i) >= 0; i++) {
            all.append((char) x.configChar(i));
        }
        return all.toString();
    }

    /** Compares and tells the shift. */
    static String shift(ScanCompare x) {
        x.compare();
        return x.shiftX() + "," + x.shiftY();
    }

    static String box(ScanCompare x, int region) {
        return x.regionLeft(region) + "," + x.regionTop(region) + "," + x.regionRight(region) + ","
            + x.regionBottom(region);
    }

    /** Compares and tells the top left corners of the regions in their order. */
    static String corners(ScanCompare x) {
        x.compare();
        StringBuilder all = new StringBuilder();
        for (int r = 0; r < x.regions(); r++) {
            all.append(x.regionLeft(r)).append(',').append(x.regionTop(r)).append(' ');
        }
        return all.toString();
    }

    /** The changes in their order: kind, region and, for a move, the region that it leads to. */
    static String changesOf(ScanCompare x) {
        StringBuilder all = new StringBuilder();
        for (int c = 0; c < x.changes(); c++) {
            all.append("-+*".charAt(x.changeKind(c) - 1)).append(x.changeRegion(c));
            if (x.changeTarget(c) >= 0) {
                all.append('>').append(x.changeTarget(c));
            }
            all.append(' ');
        }
        return all.toString();
    }

    /** An object with block 4, and noise, jitter and search 0, which pairs the smallest parts too. */
    static ScanCompare plain(int w, int h) {
        ScanCompare x = new ScanCompare(w, h);
        configure(x, "block=4;noise=0;jitter=0;search=0;pair=1");
        return x;
    }

    /** Two pages of 32 by 32 that are alike, but for a part removed, one added and one moved. */
    static ScanCompare three() {
        ScanCompare x = new ScanCompare(32, 32);
        x.fill(0, 0, 28, 32, 4, true);
        x.fill(0, 1, 1, 3, 3, true);    // removed, in block (0, 0)
        x.fill(0, 17, 1, 4, 2, true);   // moved away
        x.copy(0, 1, 0, 0);
        x.fill(1, 1, 1, 3, 3, false);
        x.fill(1, 17, 1, 4, 2, false);
        x.fill(1, 1, 17, 4, 2, true);   // moved to here
        x.fill(1, 18, 17, 5, 5, true);  // added
        return x;
    }

    static ScanCompare compared() {
        ScanCompare x = three();
        x.compare();
        return x;
    }
}
