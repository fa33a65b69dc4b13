/**
 * A comparer for scanned pages: it cleans two black-and-white pages of speckles, registers the scan
 * to the original, joins the differences into regions and reports them as changes.
 */
public final class ScanCompare {
    private static final int PAGES = 4;
    private static final int LEAST_SIDE = 8;
    private static final int GREATEST_SIDE = 64;
    private static final int MOST_MASKS = 6;
    private static final int MOST_STAMPS = 7;
    private static final int MOST_STATES = 8;
    private static final int MOST_LETTERS = 80;
    private static final int MOST_BLOCKS = 256;
    private static final int MOST_CELLS = 256;
    private static final int CELL = 4;
    private static final int GREATEST_SHIFT = 16;
    private static final int ABOVE_ALL_COSTS = 1000000;
    private static final int GREATEST_NOISE = 256;
    private static final int GREATEST_SPECKLE = 64;
    private static final int GREATEST_GAP = 64;
    private static final int REMOVAL = 1;
    private static final int ADDITION = 2;
    private static final int MOVE = 3;
    private static final Setting[] SETTINGS = Setting.values();

    private final int width;
    private final int height;
    private final Image[] pages;
    private final History history;
    private final Blobs blobs;
    private final Text text;
    private final Config config;
    private final int[][] masks;
    private int maskCount;
    /** The pixels outside every mask, made anew for each comparison. */
    private final Image watched;
    private final Stamps stamps;
    private final Comparison result;
    private boolean compared;
    private final Probe probe;

    public ScanCompare(int width, int height) {
        this.width = Math.max(LEAST_SIDE, Math.min(GREATEST_SIDE, width));
        this.height = Math.max(LEAST_SIDE, Math.min(GREATEST_SIDE, height));
        pages = new Image[PAGES];
        for (int i = 0; i < PAGES; i++) {
            pages[i] = new Image(this.width, this.height);
        }
        history = new History(this.width, this.height);
        blobs = new Blobs(this.width, this.height);
        text = new Text();
        config = new Config();
        masks = new int[MOST_MASKS][4];
        watched = new Image(this.width, this.height);
        stamps = new Stamps();
        result = new Comparison(this.width, this.height);
        probe = new Probe();
    }

    // ---- pages

    public long row(int page, int y) throws IndexOutOfBoundsException {
        Image image = pageAt(page);
        requireRow(y);
        return image.rowAt(y);
    }

    public int setRow(int page, int y, long bits) throws IndexOutOfBoundsException {
        Image image = pageAt(page);
        requireRow(y);
        Image before = history.keep(page, image);
        image.putRow(y, bits);
        return image.differences(before);
    }

    public int fill(int page, int x, int y, int w, int h, boolean ink)
            throws IndexOutOfBoundsException, IllegalArgumentException {
        Image image = pageAt(page);
        requireSize(w, h);
        Image before = history.keep(page, image);
        image.paint(x, y, w, h, ink);
        return image.differences(before);
    }

    public int copy(int from, int to, int dx, int dy) throws IndexOutOfBoundsException {
        Image source = pageAt(from);
        Image target = pageAt(to);
        Image before = history.keep(to, target);
        // A page copied onto itself is read from its kept state, which the drawing doesn't change.
        target.drawMoved(from == to ? before : source, dx, dy);
        return target.differences(before);
    }

    public int merge(int to) throws IndexOutOfBoundsException {
        Image target = pageAt(to);
        Image before = history.keep(to, target);
        target.drawMajority(pages[1], pages[2], pages[3]);
        return target.differences(before);
    }

    public int flip(int page, int kind) throws IndexOutOfBoundsException, IllegalArgumentException {
        Image image = pageAt(page);
        if (kind < 0 || kind > 2) {
            throw new IllegalArgumentException("no such kind of flip");
        }
        Image before = history.keep(page, image);
        image.drawFlipped(before, kind != 1, kind != 0);
        return image.differences(before);
    }

    public int despeckle(int page, int size) throws IndexOutOfBoundsException, IllegalArgumentException {
        Image image = pageAt(page);
        if (size < 0 || size > GREATEST_SPECKLE) {
            throw new IllegalArgumentException("size out of range");
        }
        history.keep(page, image);
        return blobs.strip(image, size);
    }

    public int paste(int page, int x, int y) throws IndexOutOfBoundsException {
        Image image = pageAt(page);
        int error = text.patternError();
        if (error >= 0) {
            return -1 - error;
        }
        Image before = history.keep(page, image);
        text.drawPattern(image, x, y);
        text.clear();
        return image.differences(before);
    }

    public int components(int page) throws IndexOutOfBoundsException {
        return blobs.countIn(pageAt(page));
    }

    public int lines(int page) throws IndexOutOfBoundsException {
        return pageAt(page).lineCount();
    }

    public int lineTop(int page, int line) throws IndexOutOfBoundsException {
        return topOfLine(pageAt(page), line);
    }

    public int lineBottom(int page, int line) throws IndexOutOfBoundsException {
        Image image = pageAt(page);
        return image.lineEnd(topOfLine(image, line));
    }

    public int words(int page, int line, int gap) throws IndexOutOfBoundsException, IllegalArgumentException {
        Image image = pageAt(page);
        int top = topOfLine(image, line);
        if (gap < 1 || gap > GREATEST_GAP) {
            throw new IllegalArgumentException("gap out of range");
        }
        return image.wordCount(top, gap);
    }

    public int ink(int page, int x, int y, int w, int h) throws IndexOutOfBoundsException, IllegalArgumentException {
        Image image = pageAt(page);
        requireSize(w, h);
        return image.inkWithin(x, y, w, h);
    }

    public long fingerprint(int page) throws IndexOutOfBoundsException {
        Image image = pageAt(page);
        long print = 17L;
        print = 31L * print + width;
        print = 31L * print + height;
        for (int y = 0; y < height; y++) {
            print = 31L * print + image.rowAt(y);
        }
        return print;
    }

    public int undo() throws IllegalStateException {
        if (history.isBare()) {
            throw new IllegalStateException("no edit can be undone");
        }
        return history.restoreTo(pages);
    }

    // ---- settings, masks

    public int type(int c) throws IllegalArgumentException, IllegalStateException {
        if (c < 32 || c > 126) {
            throw new IllegalArgumentException("no printable character");
        }
        if (text.isFull()) {
            throw new IllegalStateException("the text is full");
        }
        return text.add(c);
    }

    public int clearText() {
        return text.clear();
    }

    public int configure() {
        int answer = config.read(text);
        if (answer >= 0) {
            config.applyRead();
            text.clear();
        }
        return answer;
    }

    public int setting(int i) throws IndexOutOfBoundsException {
        if (i < 0 || i >= SETTINGS.length) {
            throw new IndexOutOfBoundsException("no such setting");
        }
        return config.valueOf(SETTINGS[i]);
    }

    public int configChar(int i) throws IndexOutOfBoundsException {
        if (i < 0) {
            throw new IndexOutOfBoundsException("negative index");
        }
        probe.seek(i);
        config.describe(probe);
        return probe.found();
    }

    public int addMask(int x, int y, int w, int h) throws IllegalArgumentException, IllegalStateException {
        if (!isWithin(x, w, width) || !isWithin(y, h, height)) {
            throw new IllegalArgumentException("no rectangle of the page");
        }
        if (maskCount >= MOST_MASKS) {
            throw new IllegalStateException("too many masks");
        }
        int[] mask = masks[maskCount];
        mask[0] = x;
        mask[1] = y;
        mask[2] = w;
        mask[3] = h;
        maskCount++;
        return maskCount;
    }

    public int removeMask(int i) throws IndexOutOfBoundsException {
        if (i < 0 || i >= maskCount) {
            throw new IndexOutOfBoundsException("no such mask");
        }
        for (int k = i; k + 1 < maskCount; k++) {
            System.arraycopy(masks[k + 1], 0, masks[k], 0, 4);
        }
        maskCount--;
        return maskCount;
    }

    // ---- comparison, registration

    public int compare() {
        watched.paint(0, 0, width, height, true);
        for (int k = 0; k < maskCount; k++) {
            int[] mask = masks[k];
            watched.paint(mask[0], mask[1], mask[2], mask[3], false);
        }
        result.clean(pages[0], pages[1], blobs, config);
        result.examine(watched, config, stamps);
        compared = true;
        return result.changeCount;
    }

    public int shiftX() throws IllegalStateException {
        return registration().dx;
    }

    public int shiftY() throws IllegalStateException {
        return registration().dy;
    }

    public int skew() throws IllegalStateException {
        return registration().slant;
    }

    public boolean turned() throws IllegalStateException {
        return registration().upsideDown;
    }

    public int mismatch() throws IllegalStateException {
        return registration().cost;
    }

    public int similarity() throws IllegalStateException {
        int area = width * height;
        int equal = area - registration().cost;
        return area < 1 ? 0 : equal * 1000 / area;
    }

    public int mismatchAt(int dx, int dy) throws IllegalStateException, IllegalArgumentException {
        Registration found = registration();
        if (Math.max(dx, dy) > GREATEST_SHIFT || Math.min(dx, dy) < -GREATEST_SHIFT) {
            throw new IllegalArgumentException("shift out of range");
        }
        return found.costOf(result.original, dx, dy);
    }

    // ---- blocks, regions

    public int blockDifference(int i, int j) throws IllegalStateException, IndexOutOfBoundsException {
        requireComparison();
        if (i < 0 || i >= result.columns || j < 0 || j >= result.blockRows) {
            throw new IndexOutOfBoundsException("no such block");
        }
        return result.differenceOf(i, j);
    }

    public int regions() throws IllegalStateException {
        requireComparison();
        return result.regionCount;
    }

    public int regionAt(int x, int y) throws IllegalStateException, IndexOutOfBoundsException {
        requireComparison();
        if (x < 0 || x >= width || y < 0 || y >= height) {
            throw new IndexOutOfBoundsException("no pixel of the page");
        }
        return result.regionOfPixel(x, y);
    }

    public int regionLeft(int region) throws IllegalStateException, IndexOutOfBoundsException {
        return regionOf(region).left;
    }

    public int regionTop(int region) throws IllegalStateException, IndexOutOfBoundsException {
        return regionOf(region).top;
    }

    public int regionRight(int region) throws IllegalStateException, IndexOutOfBoundsException {
        return regionOf(region).right;
    }

    public int regionBottom(int region) throws IllegalStateException, IndexOutOfBoundsException {
        return regionOf(region).bottom;
    }

    public int missingPixels(int region) throws IllegalStateException, IndexOutOfBoundsException {
        return regionOf(region).removed.pixels;
    }

    public int addedPixels(int region) throws IllegalStateException, IndexOutOfBoundsException {
        return regionOf(region).added.pixels;
    }

    // ---- changes, report

    public int changes() throws IllegalStateException {
        requireComparison();
        return result.changeCount;
    }

    public int changeKind(int change) throws IllegalStateException, IndexOutOfBoundsException {
        return changeOf(change).kind();
    }

    public int changeRegion(int change) throws IllegalStateException, IndexOutOfBoundsException {
        return changeOf(change).region;
    }

    public int changeTarget(int change) throws IllegalStateException, IndexOutOfBoundsException {
        Part partner = changeOf(change).partner;
        return partner == null ? -1 : partner.region;
    }

    public int moveX(int change) throws IllegalStateException, IndexOutOfBoundsException {
        Part part = changeOf(change);
        Part partner = part.partner;
        return partner == null ? 0 : partner.left - part.left;
    }

    public int moveY(int change) throws IllegalStateException, IndexOutOfBoundsException {
        Part part = changeOf(change);
        Part partner = part.partner;
        return partner == null ? 0 : partner.top - part.top;
    }

    public int changePixels(int change) throws IllegalStateException, IndexOutOfBoundsException {
        return changeOf(change).pixels;
    }

    public int changeLine(int change) throws IllegalStateException, IndexOutOfBoundsException {
        return changeOf(change).line;
    }

    public int reportChar(int i) throws IllegalStateException, IndexOutOfBoundsException {
        requireComparison();
        if (i < 0) {
            throw new IndexOutOfBoundsException("negative index");
        }
        probe.seek(i);
        result.report(probe);
        return probe.found();
    }

    // ---- stamps, advice

    public int learn(int change) throws IndexOutOfBoundsException, IllegalStateException {
        if (!compared) {
            throw new IndexOutOfBoundsException("no comparison");
        }
        Part part = changeOf(change);
        int known = stamps.numberOf(part);
        if (known >= 0) {
            return known;
        }
        if (stamps.isFull()) {
            throw new IllegalStateException("too many stamps");
        }
        return stamps.add(part);
    }

    public int stampOf(int change) throws IllegalStateException, IndexOutOfBoundsException {
        return stamps.numberOf(changeOf(change));
    }

    public int forgetStamp(int stamp) throws IndexOutOfBoundsException {
        if (stamp < 0 || stamp >= stamps.count) {
            throw new IndexOutOfBoundsException("no such stamp");
        }
        return stamps.drop(stamp);
    }

    public int accept(int change) throws IllegalStateException, IndexOutOfBoundsException {
        Part part = changeOf(change);
        Image page = pages[0];
        Image before = history.keep(0, page);
        page.stampPart(part);
        if (part.partner != null) {
            page.stampPart(part.partner);
        }
        return page.differences(before);
    }

    public int leastNoise(int count) throws IllegalStateException, IllegalArgumentException {
        requireComparison();
        if (count < 0) {
            throw new IllegalArgumentException("negative number of regions");
        }
        return result.noiseFor(count);
    }

    // ---- tests of arguments

    private Image pageAt(int page) throws IndexOutOfBoundsException {
        if (page < 0 || page >= pages.length) {
            throw new IndexOutOfBoundsException("no such page");
        }
        return pages[page];
    }

    private void requireRow(int y) throws IndexOutOfBoundsException {
        if (y < 0 || y >= height) {
            throw new IndexOutOfBoundsException("no such row");
        }
    }

    private static void requireSize(int w, int h) throws IllegalArgumentException {
        if (w < 0 || h < 0) {
            throw new IllegalArgumentException("negative size");
        }
    }

    private static int topOfLine(Image image, int line) throws IndexOutOfBoundsException {
        int top = image.lineStart(line);
        if (top < 0) {
            throw new IndexOutOfBoundsException("no such text line");
        }
        return top;
    }

    private static boolean isWithin(int start, int size, int limit) {
        return start >= 0 && start < limit && size >= 1 && size <= limit - start;
    }

    private void requireComparison() throws IllegalStateException {
        if (!compared) {
            throw new IllegalStateException("no comparison");
        }
    }

    private Registration registration() throws IllegalStateException {
        requireComparison();
        return result.registration;
    }

    private Region regionOf(int region) throws IllegalStateException, IndexOutOfBoundsException {
        requireComparison();
        Region found = result.regionNumbered(region);
        if (found == null) {
            throw new IndexOutOfBoundsException("no such region");
        }
        return found;
    }

    private Part changeOf(int change) throws IllegalStateException, IndexOutOfBoundsException {
        requireComparison();
        Part found = result.changeNumbered(change);
        if (found == null) {
            throw new IndexOutOfBoundsException("no such change");
        }
        return found;
    }

    /** A black-and-white picture of the size of the page; bit x of a row is set for ink. */
    private static final class Image {
        private final int width;
        private final int height;
        private final long whole;
        private final long[] bits;

        Image(int width, int height) {
            this.width = width;
            this.height = height;
            whole = below(width);
            bits = new long[height];
        }

        /** The bits 0 to n - 1. */
        static long below(int n) {
            if (n <= 0) {
                return 0L;
            }
            return n >= 64 ? -1L : (1L << n) - 1L;
        }

        /** A row of bits moved to the right by a number of columns, or to the left if it is negative. */
        static long moved(long row, int by) {
            if (by >= 64 || by <= -64) {
                return 0L;
            }
            return by >= 0 ? row << by : row >>> -by;
        }

        private static int clipped(long place, int limit) {
            if (place < 0) {
                return 0;
            }
            return place > limit ? limit : (int) place;
        }

        long rowAt(int y) {
            return y >= 0 && y < bits.length ? bits[y] : 0L;
        }

        void putRow(int y, long row) {
            if (y >= 0 && y < bits.length) {
                bits[y] = row & whole;
            }
        }

        void takeFrom(Image other) {
            for (int y = 0; y < height; y++) {
                putRow(y, other.rowAt(y));
            }
        }

        int differences(Image other) {
            int count = 0;
            for (int y = 0; y < height; y++) {
                count += Long.bitCount(rowAt(y) ^ other.rowAt(y));
            }
            return count;
        }

        private long span(long x, int w) {
            return below(clipped(x + w, width)) & ~below(clipped(x, width));
        }

        /** The place is a long, so that its sum with a size can't overflow. */
        void paint(long x, long y, int w, int h, boolean black) {
            long span = span(x, w);
            int end = clipped(y + h, height);
            for (int k = clipped(y, height); k < end; k++) {
                putRow(k, black ? rowAt(k) | span : rowAt(k) & ~span);
            }
        }

        int inkWithin(long x, long y, int w, int h) {
            long span = span(x, w);
            int end = clipped(y + h, height);
            int count = 0;
            for (int k = clipped(y, height); k < end; k++) {
                count += Long.bitCount(rowAt(k) & span);
            }
            return count;
        }

        void drawMoved(Image source, int dx, int dy) {
            for (int y = 0; y < height; y++) {
                long from = (long) y - dy;
                putRow(y, from < 0 || from >= height ? 0L : moved(source.rowAt((int) from), dx));
            }
        }

        void drawMajority(Image a, Image b, Image c) {
            for (int y = 0; y < height; y++) {
                long p = a.rowAt(y);
                long q = b.rowAt(y);
                long r = c.rowAt(y);
                putRow(y, (p & q) | (p & r) | (q & r));
            }
        }

        void drawFlipped(Image source, boolean sideways, boolean upright) {
            for (int y = 0; y < height; y++) {
                long row = source.rowAt(upright ? height - 1 - y : y);
                putRow(y, sideways ? mirrored(row) : row);
            }
        }

        private long mirrored(long row) {
            long mirror = 0L;
            for (int x = 0; x < width; x++) {
                mirror = (mirror << 1) | ((row >>> x) & 1L);
            }
            return mirror;
        }

        /** Draws the ink of one image that has no ink of another within reach. */
        void drawUnmatched(Image own, Image other, int reach) {
            for (int y = 0; y < height; y++) {
                putRow(y, own.rowAt(y) & ~other.inkAround(y, reach));
            }
        }

        private long inkAround(int y, int reach) {
            long near = 0L;
            for (int k = y - reach; k <= y + reach; k++) {
                near |= rowAt(k);
            }
            for (int k = 0; k < reach; k++) {
                near |= (near << 1) | (near >>> 1);
            }
            return near;
        }

        void keepOnly(Image other) {
            for (int y = 0; y < height; y++) {
                putRow(y, rowAt(y) & other.rowAt(y));
            }
        }

        void stampPart(Part part) {
            for (int k = 0; k < part.height; k++) {
                long row = moved(part.shapeRow(k), part.left);
                int y = part.top + k;
                putRow(y, part.black ? rowAt(y) | row : rowAt(y) & ~row);
            }
        }

        private boolean startsLine(int y) {
            return rowAt(y) != 0L && rowAt(y - 1) == 0L;
        }

        int lineCount() {
            return linesUpTo(height - 1);
        }

        int linesUpTo(int last) {
            int count = 0;
            for (int y = 0; y <= last && y < height; y++) {
                if (startsLine(y)) {
                    count++;
                }
            }
            return count;
        }

        /** The first row of a text line, -1 if there is no such line. */
        int lineStart(int line) {
            int before = 0;
            for (int y = 0; y < height; y++) {
                if (startsLine(y)) {
                    if (before == line) {
                        return y;
                    }
                    before++;
                }
            }
            return -1;
        }

        int lineEnd(int top) {
            int y = top;
            while (y + 1 < height && rowAt(y + 1) != 0L) {
                y++;
            }
            return y;
        }

        int wordCount(int top, int gap) {
            int bottom = lineEnd(top);
            long columns = 0L;
            for (int y = top; y <= bottom; y++) {
                columns |= rowAt(y);
            }
            int count = 0;
            int last = -1;
            for (int x = 0; x < width; x++) {
                if (((columns >>> x) & 1L) != 0L) {
                    if (count == 0 || x - last - 1 >= gap) {
                        count++;
                    }
                    last = x;
                }
            }
            return count;
        }
    }

    /** The states before the latest edits; an edit changes one page, so a state is that page. */
    private static final class History {
        private final Image[] states;
        private final int[] pageOf;
        private int first;
        private int count;

        History(int width, int height) {
            states = new Image[MOST_STATES];
            pageOf = new int[MOST_STATES];
            for (int i = 0; i < MOST_STATES; i++) {
                states[i] = new Image(width, height);
            }
        }

        boolean isBare() {
            return count == 0;
        }

        private int slotAt(int place) {
            return Math.floorMod(first + place, MOST_STATES);
        }

        /** Keeps the state of a page before an edit and answers that state. */
        Image keep(int page, Image image) {
            if (count == MOST_STATES) {
                first = slotAt(1);
                count--;
            }
            int slot = slotAt(count);
            pageOf[slot] = page;
            states[slot].takeFrom(image);
            count++;
            return states[slot];
        }

        int restoreTo(Image[] pages) {
            if (count > 0) {
                count--;
                int slot = slotAt(count);
                int page = pageOf[slot];
                if (page >= 0 && page < pages.length) {
                    pages[page].takeFrom(states[slot]);
                }
            }
            return count;
        }
    }

    /** Finds the components of an image one by one. */
    private static final class Blobs {
        private final int height;
        private final int area;
        /** The ink that belongs to no component found so far. */
        private final long[] open;
        private final long[] blob;
        private int top;
        private int bottom;

        Blobs(int width, int height) {
            this.height = height;
            area = width * height;
            open = new long[height];
            blob = new long[height];
        }

        int countIn(Image image) {
            begin(image);
            int count = 0;
            while (count < area && findNext()) {
                count++;
            }
            return count;
        }

        /** Removes the components with fewer pixels than a size and answers how many they were. */
        int strip(Image image, int size) {
            begin(image);
            int removed = 0;
            int seen = 0;
            while (seen < area && findNext()) {
                seen++;
                if (pixels() < size) {
                    erase(image);
                    removed++;
                }
            }
            return removed;
        }

        private void begin(Image image) {
            top = 0;
            bottom = -1;
            for (int y = 0; y < height; y++) {
                open[y] = image.rowAt(y);
                blob[y] = 0L;
            }
        }

        private boolean findNext() {
            for (int y = top; y <= bottom; y++) {
                blob[y] = 0L;
            }
            for (int y = 0; y < height; y++) {
                if (open[y] != 0L) {
                    top = y;
                    bottom = y;
                    blob[y] = open[y] & -open[y];
                    grow();
                    close();
                    return true;
                }
            }
            bottom = -1;
            return false;
        }

        /**
         * The seed lies in the first row with open ink, so the component grows downward alone. Each sweep
         * but the last adds a pixel, so there are at most as many as the page has pixels and one more.
         */
        private void grow() {
            boolean grown = true;
            for (int sweep = 0; grown && sweep <= area; sweep++) {
                grown = false;
                for (int y = top; y < height && y <= bottom + 1; y++) {
                    grown = spread(y) || grown;
                }
                for (int y = bottom; y >= top; y--) {
                    grown = spread(y) || grown;
                }
            }
        }

        private long blobAt(int y) {
            return y >= 0 && y < height ? blob[y] : 0L;
        }

        private boolean spread(int y) {
            if (y < 0 || y >= height) {
                return false;
            }
            long near = blobAt(y - 1) | blob[y] | blobAt(y + 1);
            long reached = widened(near, open[y]);
            if (reached == blob[y]) {
                return false;
            }
            blob[y] = reached;
            bottom = Math.max(bottom, y);
            return true;
        }

        private static long widened(long near, long free) {
            long reached = near;
            for (int step = 0; step <= GREATEST_SIDE; step++) {
                long wider = (reached | (reached << 1) | (reached >>> 1)) & free;
                if (wider == reached) {
                    break;
                }
                reached = wider;
            }
            return reached;
        }

        private void close() {
            for (int y = top; y <= bottom; y++) {
                open[y] &= ~blob[y];
            }
        }

        private int pixels() {
            int count = 0;
            for (int y = top; y <= bottom; y++) {
                count += Long.bitCount(blob[y]);
            }
            return count;
        }

        private void erase(Image image) {
            for (int y = top; y <= bottom; y++) {
                image.putRow(y, image.rowAt(y) & ~blob[y]);
            }
        }
    }

    /** The text that is typed; it can be read as a pattern. */
    private static final class Text {
        private final int[] codes = new int[MOST_LETTERS];
        private int length;

        int length() {
            return length;
        }

        boolean isFull() {
            return length >= MOST_LETTERS;
        }

        int add(int code) {
            if (!isFull()) {
                codes[length] = code;
                length++;
            }
            return length;
        }

        int clear() {
            int had = length;
            length = 0;
            return had;
        }

        /** The character at an index, -1 if there is none. */
        int codeAt(int i) {
            return i >= 0 && i < length ? codes[i] : -1;
        }

        private static boolean isDigit(int code) {
            return code >= '0' && code <= '9';
        }

        private static boolean isLetter(int code) {
            return code >= 'a' && code <= 'z';
        }

        int endOfDigits(int from) {
            int end = from;
            while (end < length && isDigit(codeAt(end))) {
                end++;
            }
            return end;
        }

        int endOfLetters(int from) {
            int end = from;
            while (end < length && isLetter(codeAt(end))) {
                end++;
            }
            return end;
        }

        int endOfLettersAndDigits(int from) {
            int end = from;
            while (end < length && (isLetter(codeAt(end)) || isDigit(codeAt(end)))) {
                end++;
            }
            return end;
        }

        /** The number that a few digits make. */
        int numberOf(int from, int end) {
            int number = 0;
            for (int i = from; i < end; i++) {
                number = number * 10 + codeAt(i) - '0';
            }
            return number;
        }

        boolean matches(int from, int end, String word) {
            if (end - from != word.length()) {
                return false;
            }
            for (int i = 0; i < word.length(); i++) {
                if (codeAt(from + i) != word.charAt(i)) {
                    return false;
                }
            }
            return true;
        }

        /** The error position of the text as a pattern, -1 if it has no error. */
        int patternError() {
            int at = 0;
            // An item has a sign, so there are at most as many items as characters.
            for (int item = 0; item < length && at < length; item++) {
                int end = endOfDigits(at);
                int digits = end - at;
                if (digits > 2) {
                    return at + 2;
                }
                if (digits > 0 && !isCount(numberOf(at, end))) {
                    return at;
                }
                int sign = codeAt(end);
                if (sign == '!') {
                    return errorAtMark(end, digits);
                }
                // Behind a count at the end of the text this is the length.
                if (sign != 'o' && sign != 'b' && sign != '$') {
                    return end;
                }
                at = end + 1;
            }
            return length;
        }

        private static boolean isCount(int number) {
            return number >= 1 && number <= 64;
        }

        private int errorAtMark(int mark, int digits) {
            if (digits > 0) {
                return mark;
            }
            return mark + 1 < length ? mark + 1 : -1;
        }

        /** Draws the text, which has no error as a pattern. */
        void drawPattern(Image image, int x, int y) {
            long column = x;
            long line = y;
            int at = 0;
            for (int item = 0; item < length && at < length; item++) {
                int end = endOfDigits(at);
                int count = end > at ? numberOf(at, end) : 1;
                int sign = codeAt(end);
                if (sign == '$') {
                    column = x;
                    line += count;
                } else if (sign == 'o' || sign == 'b') {
                    image.paint(column, line, count, 1, sign == 'o');
                    column += count;
                }
                at = end + 1;
            }
        }
    }

    /** The settings with their names, ranges and initial values; some have words for 0 and 1. */
    private enum Setting {
        BLOCK(0, "block", 4, 16, 8),
        NOISE(1, "noise", 0, GREATEST_NOISE, 2),
        JITTER(2, "jitter", 0, 2, 1),
        SPECKLE(3, "speckle", 0, 9, 0),
        SEARCH(4, "search", 0, GREATEST_SHIFT, 8),
        SKEW(5, "skew", 0, 2, 0),
        TURN(6, "turn", "off", "on"),
        ORDER(7, "order", "rows", "columns"),
        PAIR(8, "pair", 1, 99, 4),
        STAMPS(9, "stamps", "keep", "hide");

        final int number;
        final String label;
        final int least;
        final int greatest;
        final int initial;
        final String zeroWord;
        final String oneWord;

        Setting(int number, String label, int least, int greatest, int initial) {
            this.number = number;
            this.label = label;
            this.least = least;
            this.greatest = greatest;
            this.initial = initial;
            zeroWord = "";
            oneWord = "";
        }

        Setting(int number, String label, String zeroWord, String oneWord) {
            this.number = number;
            this.label = label;
            least = 0;
            greatest = 1;
            initial = 0;
            this.zeroWord = zeroWord;
            this.oneWord = oneWord;
        }

        boolean hasWords() {
            return !zeroWord.isEmpty();
        }

        /** The value that a part of a text gives, -1 if it is not allowed. */
        int valueIn(Text text, int from, int end) {
            if (hasWords()) {
                if (text.matches(from, end, zeroWord)) {
                    return 0;
                }
                return text.matches(from, end, oneWord) ? 1 : -1;
            }
            if (end <= from || end - from > 3 || text.endOfDigits(from) < end) {
                return -1;
            }
            int value = text.numberOf(from, end);
            return value >= least && value <= greatest ? value : -1;
        }
    }

    /** The values of the settings and the order in which they were first given. */
    private static final class Config {
        private final int[] values = new int[SETTINGS.length];
        private final int[] given = new int[SETTINGS.length];
        private int givenCount;
        /** What the text that is read would make of the values and the order. */
        private final int[] nextValues = new int[SETTINGS.length];
        private final int[] nextGiven = new int[SETTINGS.length];
        private int nextCount;

        Config() {
            for (int i = 0; i < SETTINGS.length; i++) {
                values[i] = SETTINGS[i].initial;
            }
        }

        int valueOf(Setting setting) {
            int i = setting.number;
            return i >= 0 && i < values.length ? values[i] : 0;
        }

        /** Reads a text: the number of its settings, or -1 minus its error position. */
        int read(Text text) {
            System.arraycopy(values, 0, nextValues, 0, SETTINGS.length);
            System.arraycopy(given, 0, nextGiven, 0, SETTINGS.length);
            nextCount = givenCount;
            int length = text.length();
            if (length == 0) {
                return 0;
            }
            int at = 0;
            // A setting has an equals sign, so there are fewer settings than characters.
            for (int count = 1; count <= MOST_LETTERS; count++) {
                int nameEnd = text.endOfLetters(at);
                Setting setting = settingNamed(text, at, nameEnd);
                if (setting == null) {
                    return -1 - at;
                }
                if (text.codeAt(nameEnd) != '=') {
                    return -1 - nameEnd;
                }
                int valueEnd = text.endOfLettersAndDigits(nameEnd + 1);
                int value = setting.valueIn(text, nameEnd + 1, valueEnd);
                if (value < 0) {
                    return -2 - nameEnd;
                }
                note(setting.number, value);
                if (valueEnd >= length) {
                    return count;
                }
                if (text.codeAt(valueEnd) != ';') {
                    return -1 - valueEnd;
                }
                at = valueEnd + 1;
            }
            return -1 - at;
        }

        private static Setting settingNamed(Text text, int from, int end) {
            for (Setting setting : SETTINGS) {
                if (text.matches(from, end, setting.label)) {
                    return setting;
                }
            }
            return null;
        }

        private void note(int number, int value) {
            if (number < 0 || number >= nextValues.length) {
                return;
            }
            nextValues[number] = value;
            for (int k = 0; k < nextCount; k++) {
                if (nextGiven[k] == number) {
                    return;
                }
            }
            if (nextCount < nextGiven.length) {
                nextGiven[nextCount] = number;
                nextCount++;
            }
        }

        void applyRead() {
            System.arraycopy(nextValues, 0, values, 0, SETTINGS.length);
            System.arraycopy(nextGiven, 0, given, 0, SETTINGS.length);
            givenCount = nextCount;
        }

        void describe(Probe probe) {
            for (int k = 0; k < givenCount; k++) {
                int number = given[k];
                if (number >= 0 && number < SETTINGS.length) {
                    if (k > 0) {
                        probe.put(';');
                    }
                    describeOne(SETTINGS[number], probe);
                }
            }
        }

        private void describeOne(Setting setting, Probe probe) {
            int value = valueOf(setting);
            probe.write(setting.label);
            probe.put('=');
            if (setting.hasWords()) {
                probe.write(value == 0 ? setting.zeroWord : setting.oneWord);
            } else {
                probe.writeNumber(value);
            }
        }
    }

    /** Picks one character out of a text that is written to it and not kept. */
    private static final class Probe {
        private int wanted;
        private int written;
        private int picked;

        void seek(int index) {
            wanted = index;
            written = 0;
            picked = -1;
        }

        int found() {
            return picked;
        }

        void put(int code) {
            if (written == wanted) {
                picked = code;
            }
            written++;
        }

        void write(String words) {
            for (int i = 0; i < words.length(); i++) {
                put(words.charAt(i));
            }
        }

        void writeNumber(int number) {
            if (number < 0) {
                put('-');
            }
            int rest = Math.abs(number);
            for (int unit = 1000000; unit >= 1; unit /= 10) {
                if (rest >= unit || unit == 1) {
                    put('0' + rest / unit % 10);
                }
            }
        }

        void writePair(int a, String between, int b) {
            writeNumber(a);
            write(between);
            writeNumber(b);
        }
    }

    /** Pixels of one kind with their box; row k of the shape begins at the left column of the box. */
    private static final class Part {
        /** Whether the pixels are added ones; otherwise they are missing ones. */
        final boolean black;
        private final long[] shape = new long[GREATEST_SIDE];
        int left;
        int top;
        int width;
        int height;
        int pixels;
        int region;
        /** The other part of a move. */
        Part partner;
        int line;
        /** The stamp that had the shape when the pages were compared, or -1. */
        int stamp;

        Part(boolean black) {
            this.black = black;
        }

        int kind() {
            if (partner != null) {
                return MOVE;
            }
            return black ? ADDITION : REMOVAL;
        }

        long shapeRow(int k) {
            return k >= 0 && k < shape.length ? shape[k] : 0L;
        }

        void begin() {
            for (int k = 0; k < shape.length; k++) {
                shape[k] = 0L;
            }
            partner = null;
        }

        /** Takes pixels of a row of the page, before the box is known. */
        void takeRow(int y, long row) {
            if (y >= 0 && y < shape.length) {
                shape[y] = row;
            }
        }

        /** Finds the box of the rows taken and moves them to its corner. */
        void settle() {
            long columns = 0L;
            int bottom = -1;
            pixels = 0;
            top = 0;
            for (int y = 0; y < shape.length; y++) {
                if (shape[y] != 0L) {
                    top = pixels == 0 ? y : top;
                    bottom = y;
                    columns |= shape[y];
                    pixels += Long.bitCount(shape[y]);
                }
            }
            left = lowestBit(columns);
            width = bitsUpToHighest(columns) - left;
            height = bottom < 0 ? 0 : bottom - top + 1;
            for (int k = 0; k < shape.length; k++) {
                shape[k] = k < height ? Image.moved(shapeRow(top + k), -left) : 0L;
            }
        }

        private static int lowestBit(long bits) {
            int x = 0;
            while (x < 64 && ((bits >>> x) & 1L) == 0L) {
                x++;
            }
            return bits == 0L ? 0 : x;
        }

        private static int bitsUpToHighest(long bits) {
            int x = 64;
            while (x > 0 && ((bits >>> (x - 1)) & 1L) == 0L) {
                x--;
            }
            return x;
        }

        boolean hasShapeOf(Part other) {
            if (width != other.width || height != other.height || pixels != other.pixels) {
                return false;
            }
            for (int k = 0; k < height; k++) {
                if (shapeRow(k) != other.shapeRow(k)) {
                    return false;
                }
            }
            return true;
        }

        void takeShape(Part other) {
            width = other.width;
            height = other.height;
            pixels = other.pixels;
            System.arraycopy(other.shape, 0, shape, 0, GREATEST_SIDE);
        }

        void report(Probe probe) {
            Part target = partner;
            if (target != null) {
                probe.write("moved ");
                probe.writeNumber(pixels);
                probe.write(" from ");
                probe.writePair(left, ",", top);
                probe.write(" to ");
                probe.writePair(target.left, ",", target.top);
            } else {
                probe.write(black ? "added " : "removed ");
                probe.writeNumber(pixels);
                probe.write(" at ");
                probe.writePair(left, ",", top);
            }
            probe.write(" size ");
            probe.writePair(width, "x", height);
            if (stamp >= 0) {
                probe.write(" stamp ");
                probe.writeNumber(stamp);
            }
            probe.put('\n');
        }
    }

    /** The known stamps; of a stamp only the shape counts. */
    private static final class Stamps {
        private final Part[] known = new Part[MOST_STAMPS];
        int count;

        Stamps() {
            for (int i = 0; i < MOST_STAMPS; i++) {
                known[i] = new Part(false);
            }
        }

        boolean isFull() {
            return count >= MOST_STAMPS;
        }

        /** The number of the stamp with the shape of a part, -1 if there is none. */
        int numberOf(Part part) {
            for (int i = 0; i < count; i++) {
                if (known[i].hasShapeOf(part)) {
                    return i;
                }
            }
            return -1;
        }

        int add(Part part) {
            if (isFull()) {
                return -1;
            }
            known[count].takeShape(part);
            count++;
            return count - 1;
        }

        int drop(int stamp) {
            if (stamp >= 0 && stamp < count) {
                Part dropped = known[stamp];
                for (int i = stamp; i + 1 < count; i++) {
                    known[i] = known[i + 1];
                }
                count--;
                known[count] = dropped;
            }
            return count;
        }
    }

    /** Finds the turn, the skew and the shift of the scan. */
    private static final class Registration {
        private final int width;
        private final int height;
        private final Image upright;
        /** The scan as turned and skewed; after the search with the chosen turn and skew. */
        final Image view;
        private final int[] originalCells = new int[MOST_CELLS];
        private final int[] viewCells = new int[MOST_CELLS];
        int dx;
        int dy;
        int slant;
        boolean upsideDown;
        int cost;
        /** The best of the stage that runs. */
        private int bestX;
        private int bestY;
        private int bestCost;

        Registration(int width, int height) {
            this.width = width;
            this.height = height;
            upright = new Image(width, height);
            view = new Image(width, height);
        }

        void search(Image original, Image scan, int reach, int mostSlant, boolean mayTurn) {
            countCells(original, originalCells);
            cost = ABOVE_ALL_COSTS;
            // The order of the tries is the order in which ties are broken.
            for (int turn = 0; turn <= (mayTurn ? 1 : 0); turn++) {
                for (int k = 0; k <= 2 * mostSlant; k++) {
                    int s = (k & 1) == 1 ? -(k + 1) / 2 : k / 2;
                    look(scan, turn == 1, s);
                    countCells(view, viewCells);
                    findCoarse(reach / CELL);
                    findFine(original, CELL * bestX, CELL * bestY, reach);
                    if (bestCost < cost) {
                        dx = bestX;
                        dy = bestY;
                        slant = s;
                        upsideDown = turn == 1;
                        cost = bestCost;
                    }
                }
            }
            look(scan, upsideDown, slant);
        }

        private void look(Image scan, boolean turn, int s) {
            if (turn) {
                upright.drawFlipped(scan, true, true);
            } else {
                upright.takeFrom(scan);
            }
            for (int y = 0; y < height; y++) {
                view.putRow(y, Image.moved(upright.rowAt(y), -Math.floorDiv(s * y, 16)));
            }
        }

        private int cellColumns() {
            return (width + CELL - 1) / CELL;
        }

        private int cellRows() {
            return (height + CELL - 1) / CELL;
        }

        private void countCells(Image image, int[] cells) {
            int columns = cellColumns();
            for (int j = 0; j < cellRows(); j++) {
                for (int i = 0; i < columns; i++) {
                    int cell = j * columns + i;
                    if (cell < cells.length) {
                        cells[cell] = image.inkWithin(CELL * i, CELL * j, CELL, CELL);
                    }
                }
            }
        }

        private void findCoarse(int most) {
            bestCost = ABOVE_ALL_COSTS;
            for (int b = -most; b <= most; b++) {
                for (int a = -most; a <= most; a++) {
                    offer(a, b, coarseCost(a, b));
                }
            }
        }

        private void findFine(Image original, int middleX, int middleY, int reach) {
            int startX = Math.max(-reach, middleX - CELL + 1);
            int endX = Math.min(reach, middleX + CELL - 1);
            int startY = Math.max(-reach, middleY - CELL + 1);
            int endY = Math.min(reach, middleY + CELL - 1);
            bestCost = ABOVE_ALL_COSTS;
            for (int y = startY; y <= endY; y++) {
                for (int x = startX; x <= endX; x++) {
                    offer(x, y, costOf(original, x, y));
                }
            }
        }

        /** Pairs are offered by y and then by x, so that the first of equal ones has the least y, then x. */
        private void offer(int x, int y, int price) {
            if (price < bestCost || price == bestCost
                    && Math.abs(x) + Math.abs(y) < Math.abs(bestX) + Math.abs(bestY)) {
                bestX = x;
                bestY = y;
                bestCost = price;
            }
        }

        private int coarseCost(int a, int b) {
            int columns = cellColumns();
            int lines = cellRows();
            int sum = 0;
            for (int j = 0; j < lines; j++) {
                boolean inside = j + b >= 0 && j + b < lines;
                for (int i = 0; i < columns; i++) {
                    int there = inside && i + a >= 0 && i + a < columns
                            ? countAt(viewCells, (j + b) * columns + i + a) : 0;
                    sum += Math.abs(countAt(originalCells, j * columns + i) - there);
                }
            }
            return sum;
        }

        private static int countAt(int[] cells, int cell) {
            return cell >= 0 && cell < cells.length ? cells[cell] : 0;
        }

        /** The mismatch of a shift. */
        int costOf(Image original, int x, int y) {
            long whole = Image.below(width);
            int count = 0;
            for (int k = 0; k < height; k++) {
                long seen = Image.moved(view.rowAt(k + y), -x) & whole;
                count += Long.bitCount(original.rowAt(k) ^ seen);
            }
            return count;
        }
    }

    /** Joined changed blocks. */
    private static final class Region {
        final Part removed = new Part(false);
        final Part added = new Part(true);
        int left;
        int top;
        int right;
        int bottom;
        int number;
        int band;
        /** The regions are sorted by this. */
        long key;

        void settle() {
            removed.settle();
            added.settle();
            Part some = removed.pixels > 0 ? removed : added;
            Part other = added.pixels > 0 ? added : removed;
            left = Math.min(some.left, other.left);
            top = Math.min(some.top, other.top);
            right = Math.max(some.left + some.width, other.left + other.width) - 1;
            bottom = Math.max(some.top + some.height, other.top + other.height) - 1;
        }

        int start(boolean byColumns) {
            return byColumns ? left : top;
        }

        int end(boolean byColumns) {
            return byColumns ? right : bottom;
        }

        void takeNumber(int place) {
            number = place;
            removed.region = place;
            added.region = place;
        }
    }

    /** The results of the latest comparison. */
    private static final class Comparison {
        private final int width;
        private final int height;
        final Image original;
        private final Image scan;
        private final Image aligned;
        private final Image missing;
        private final Image extra;
        final Registration registration;
        private int side;
        int columns;
        int blockRows;
        private final int[] differences = new int[MOST_BLOCKS];
        /** For each block the region in the order of finding, -1 for none. */
        private final int[] labels = new int[MOST_BLOCKS];
        private final int[] trialLabels = new int[MOST_BLOCKS];
        private final int[] waiting = new int[MOST_BLOCKS];
        /** The regions as they were found; a place is filled when it is first needed. */
        private final Region[] finds = new Region[MOST_BLOCKS];
        /** The first regionCount places are filled; there are never more regions than blocks. */
        private final Region[] ordered = new Region[MOST_BLOCKS];
        int regionCount;
        /** The first changeCount places are filled. */
        private final Part[] listed = new Part[2 * MOST_BLOCKS];
        int changeCount;

        Comparison(int width, int height) {
            this.width = width;
            this.height = height;
            original = new Image(width, height);
            scan = new Image(width, height);
            aligned = new Image(width, height);
            missing = new Image(width, height);
            extra = new Image(width, height);
            registration = new Registration(width, height);
            side = LEAST_SIDE;
        }

        void clean(Image first, Image second, Blobs blobs, Config config) {
            int speckle = config.valueOf(Setting.SPECKLE);
            original.takeFrom(first);
            blobs.strip(original, speckle);
            scan.takeFrom(second);
            blobs.strip(scan, speckle);
        }

        void examine(Image watched, Config config, Stamps stamps) {
            registration.search(original, scan, config.valueOf(Setting.SEARCH),
                    config.valueOf(Setting.SKEW), config.valueOf(Setting.TURN) == 1);
            aligned.drawMoved(registration.view, -registration.dx, -registration.dy);
            int jitter = config.valueOf(Setting.JITTER);
            missing.drawUnmatched(original, aligned, jitter);
            missing.keepOnly(watched);
            extra.drawUnmatched(aligned, original, jitter);
            extra.keepOnly(watched);
            measureBlocks(config.valueOf(Setting.BLOCK));
            regionCount = group(config.valueOf(Setting.NOISE), labels);
            formRegions();
            sortRegions(config.valueOf(Setting.ORDER) == 1);
            pairParts(config.valueOf(Setting.PAIR));
            listChanges(config.valueOf(Setting.STAMPS) == 1, stamps);
        }

        // ---- blocks

        private void measureBlocks(int block) {
            side = Math.max(CELL, block);
            columns = (width + side - 1) / side;
            blockRows = (height + side - 1) / side;
            for (int b = 0; b < blockCount(); b++) {
                int x = b % Math.max(1, columns) * side;
                int y = b / Math.max(1, columns) * side;
                differences[b] = missing.inkWithin(x, y, side, side) + extra.inkWithin(x, y, side, side);
            }
        }

        private int blockCount() {
            return Math.min(MOST_BLOCKS, columns * blockRows);
        }

        int differenceOf(int i, int j) {
            int block = j * columns + i;
            return block >= 0 && block < differences.length ? differences[block] : 0;
        }

        /** Labels the regions that a noise leaves, in the order of their first blocks, and counts them. */
        private int group(int noise, int[] marks) {
            int blocks = blockCount();
            for (int b = 0; b < blocks; b++) {
                marks[b] = -1;
            }
            int groups = 0;
            for (int b = 0; b < blocks; b++) {
                if (marks[b] < 0 && differences[b] > noise) {
                    mark(b, groups, noise, marks);
                    groups++;
                }
            }
            return groups;
        }

        private void mark(int first, int label, int noise, int[] marks) {
            int count = join(first, label, noise, marks, 0);
            // A block waits once, as it is labelled when it begins to wait.
            for (int turn = 0; count > 0 && turn < MOST_BLOCKS; turn++) {
                count--;
                int block = waiting[count];
                int column = block % Math.max(1, columns);
                if (column > 0) {
                    count = join(block - 1, label, noise, marks, count);
                }
                if (column + 1 < columns) {
                    count = join(block + 1, label, noise, marks, count);
                }
                count = join(block - columns, label, noise, marks, count);
                count = join(block + columns, label, noise, marks, count);
            }
        }

        /** Labels a block and lets it wait, if it is a changed one without a label; answers how many wait. */
        private int join(int block, int label, int noise, int[] marks, int count) {
            if (block < 0 || block >= blockCount() || count < 0 || count >= waiting.length) {
                return count;
            }
            if (marks[block] >= 0 || differences[block] <= noise) {
                return count;
            }
            marks[block] = label;
            waiting[count] = block;
            return count + 1;
        }

        int noiseFor(int most) {
            int noise = 0;
            while (noise < GREATEST_NOISE && group(noise, trialLabels) > most) {
                noise++;
            }
            return noise;
        }

        // ---- regions

        private Region find(int label) {
            if (label < 0 || label >= finds.length) {
                return null;
            }
            if (finds[label] == null) {
                finds[label] = new Region();
            }
            return finds[label];
        }

        Region regionNumbered(int region) {
            return region >= 0 && region < regionCount && region < ordered.length ? ordered[region] : null;
        }

        int regionOfPixel(int x, int y) {
            int across = Math.max(1, side);
            int block = y / across * columns + x / across;
            if (block < 0 || block >= labels.length) {
                return -1;
            }
            Region found = find(labels[block]);
            return found == null ? -1 : found.number;
        }

        private void formRegions() {
            for (int r = 0; r < regionCount && r < ordered.length; r++) {
                Region region = find(r);
                if (region != null) {
                    collect(region.removed, missing, r);
                    collect(region.added, extra, r);
                    region.settle();
                    ordered[r] = region;
                }
            }
        }

        private void collect(Part part, Image image, int label) {
            part.begin();
            for (int j = 0; j < blockRows; j++) {
                long span = spanOf(label, j);
                for (int y = j * side; span != 0L && y < height && y < (j + 1) * side; y++) {
                    part.takeRow(y, image.rowAt(y) & span);
                }
            }
        }

        /** The columns of pixels that a region has in a row of blocks. */
        private long spanOf(int label, int j) {
            long span = 0L;
            for (int i = 0; i < columns; i++) {
                int block = j * columns + i;
                if (block < labels.length && labels[block] == label) {
                    span |= Image.moved(Image.below(side), i * side);
                }
            }
            return span;
        }

        private void sortRegions(boolean byColumns) {
            for (int r = 0; r < regionCount; r++) {
                Region region = ordered[r];
                region.key = region.start(byColumns) * 64L + region.start(!byColumns);
            }
            sortByKey();
            int band = -1;
            int end = -1;
            for (int r = 0; r < regionCount; r++) {
                Region region = ordered[r];
                if (region.start(byColumns) > end || r == 0) {
                    band++;
                    end = region.end(byColumns);
                }
                end = Math.max(end, region.end(byColumns));
                region.key = (band * 64L + region.start(!byColumns)) * 64L + region.start(byColumns);
            }
            sortByKey();
            for (int r = 0; r < regionCount; r++) {
                ordered[r].takeNumber(r);
            }
        }

        /** Regions with equal keys keep their sequence. */
        private void sortByKey() {
            for (int r = 1; r < regionCount; r++) {
                Region region = ordered[r];
                int place = r;
                while (place > 0 && ordered[place - 1].key > region.key) {
                    ordered[place] = ordered[place - 1];
                    place--;
                }
                ordered[place] = region;
            }
        }

        // ---- changes

        private void pairParts(int least) {
            for (int r = 0; r < regionCount; r++) {
                Part removed = ordered[r].removed;
                if (removed.pixels >= least) {
                    pair(removed);
                }
            }
        }

        private void pair(Part removed) {
            for (int r = 0; r < regionCount; r++) {
                Part added = ordered[r].added;
                if (added.partner == null && added.hasShapeOf(removed)) {
                    removed.partner = added;
                    added.partner = removed;
                    return;
                }
            }
        }

        private void listChanges(boolean hide, Stamps stamps) {
            changeCount = 0;
            for (int r = 0; r < regionCount; r++) {
                Part removed = ordered[r].removed;
                list(removed, hide, stamps, original);
                Part added = ordered[r].added;
                if (added.partner == null) {
                    list(added, hide, stamps, aligned);
                }
            }
        }

        private void list(Part part, boolean hide, Stamps stamps, Image image) {
            if (part.pixels == 0 || changeCount >= listed.length) {
                return;
            }
            part.stamp = stamps.numberOf(part);
            part.line = image.linesUpTo(part.top) - 1;
            if (hide && part.partner == null && part.stamp >= 0) {
                return;
            }
            listed[changeCount] = part;
            changeCount++;
        }

        Part changeNumbered(int change) {
            return change >= 0 && change < changeCount && change < listed.length ? listed[change] : null;
        }

        void report(Probe probe) {
            probe.write("shift ");
            probe.writePair(registration.dx, ",", registration.dy);
            probe.write(" skew ");
            probe.writeNumber(registration.slant);
            if (registration.upsideDown) {
                probe.write(" turned");
            }
            probe.put('\n');
            probe.writeNumber(changeCount);
            probe.write(changeCount == 1 ? " change" : " changes");
            probe.put('\n');
            for (int c = 0; c < changeCount && c < listed.length; c++) {
                listed[c].report(probe);
            }
        }
    }
}
