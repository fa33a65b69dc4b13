import java.lang.reflect.InvocationTargetException;
import java.lang.reflect.Method;
import java.util.ArrayList;
import java.util.Arrays;
import java.util.Comparator;
import java.util.LinkedHashMap;
import java.util.List;
import java.util.Map;
import java.util.Random;

/** Long runs of calls, each answered by the class and by a slow model written pixel by pixel. */
public final class ModelTests {
    private static final int RUNS = 400;
    private static final int CALLS = 250;
    private static int wrong = 0;

    public static void main(String[] args) throws Exception {
        int runs = args.length > 0 ? Integer.parseInt(args[0]) : RUNS;
        for (int run = 0; run < runs && wrong < 10; run++) {
            new Run(run).go();
        }
        System.out.println(wrong == 0 ? "all answers are as the model's" : wrong + " answers are not as the model's");
        if (wrong != 0) {
            System.exit(1);
        }
    }

    private static final class Run {
        private final int number;
        private final Random random;
        private final ScanCompare real;
        private final Model model;
        private final int w;
        private final int h;
        private int calls = 0;
        private final Map<String, Method> realMethods = new LinkedHashMap<>();
        private final Map<String, Method> modelMethods = new LinkedHashMap<>();

        Run(int number) {
            this.number = number;
            random = new Random(number);
            int width = random.nextInt(5) == 0 ? random.nextInt(90) - 5 : 8 + random.nextInt(57);
            int height = random.nextInt(5) == 0 ? random.nextInt(90) - 5 : 8 + random.nextInt(57);
            real = new ScanCompare(width, height);
            model = new Model(width, height);
            w = model.w;
            h = model.h;
            for (Method m : ScanCompare.class.getDeclaredMethods()) {
                if (java.lang.reflect.Modifier.isPublic(m.getModifiers())) {
                    realMethods.put(m.getName(), m);
                }
            }
            for (Method m : Model.class.getDeclaredMethods()) {
                modelMethods.put(m.getName(), m);
            }
        }

        private Object answer(Map<String, Method> methods, Object target, String name, Object... args) throws Exception {
            try {
                return methods.get(name).invoke(target, args);
            } catch (InvocationTargetException e) {
                return "throws " + e.getCause().getClass().getSimpleName();
            }
        }

        private Object call(String name, Object... args) throws Exception {
            calls++;
            Object due = answer(modelMethods, model, name, args);
            Object got = answer(realMethods, real, name, args);
            if (!due.equals(got)) {
                wrong++;
                System.out.println("run " + number + " call " + calls + ": " + name + Arrays.toString(args)
                        + " answered " + got + ", due is " + due);
            }
            return due;
        }

        private int any(int limit) {
            return random.nextInt(limit);
        }

        private int page() {
            return any(30) == 0 ? (any(2) == 0 ? -1 : 4) : any(3) == 0 ? any(4) : any(2);
        }

        private int place(int limit) {
            int k = any(40);
            if (k == 0) {
                return Integer.MAX_VALUE - any(3);
            }
            if (k == 1) {
                return Integer.MIN_VALUE + any(3);
            }
            return any(limit + 6) - 3;
        }

        private int size(int limit) {
            int k = any(40);
            if (k == 0) {
                return -1 - any(3);
            }
            return k == 1 ? Integer.MAX_VALUE - any(3) : any(limit);
        }

        private void type(String text) throws Exception {
            for (int i = 0; i < text.length(); i++) {
                call("type", (int) text.charAt(i));
            }
        }

        private String goodSetting() {
            switch (any(10)) {
                case 0: return "block=" + (4 + any(13));
                case 1: return "noise=" + (any(8) == 0 ? any(257) : any(5));
                case 2: return "jitter=" + any(3);
                case 3: return "speckle=" + any(10);
                case 4: return "search=" + any(17);
                case 5: return "skew=" + any(3);
                case 6: return "turn=" + (any(2) == 0 ? "on" : "off");
                case 7: return "order=" + (any(2) == 0 ? "rows" : "columns");
                case 8: return "pair=" + (any(3) == 0 ? 1 + any(99) : 1 + any(6));
                default: return "stamps=" + (any(2) == 0 ? "keep" : "hide");
            }
        }

        private String spoiled(String text) {
            if (text.isEmpty()) {
                return text;
            }
            String signs = "=;0123456789abceknoprstwABZ~ !$-";
            int at = any(text.length());
            char sign = signs.charAt(any(signs.length()));
            switch (any(3)) {
                case 0: return text.substring(0, at) + sign + text.substring(at + 1);
                case 1: return text.substring(0, at) + sign + text.substring(at);
                default: return text.substring(0, at) + text.substring(at + 1);
            }
        }

        private void configure() throws Exception {
            StringBuilder text = new StringBuilder();
            int n = 1 + any(3);
            for (int i = 0; i < n; i++) {
                text.append(i > 0 ? ";" : "").append(goodSetting());
            }
            type(any(4) == 0 ? spoiled(text.toString()) : text.toString());
            int answer = (Integer) call("configure");
            if (answer < 0 && any(5) > 0) {
                call("clearText");
            }
            for (int i = 0; i < 10; i++) {
                if (any(3) == 0) {
                    call("setting", i);
                }
            }
            call("configChar", any(50) - 1);
            if (any(10) == 0) {
                for (int i = 0; i < 100; i++) {
                    call("configChar", i);
                }
            }
        }

        private void paste() throws Exception {
            StringBuilder text = new StringBuilder();
            int n = any(6);
            for (int i = 0; i < n; i++) {
                text.append(any(2) == 0 ? "" : "" + (any(9) == 0 ? any(120) : 1 + any(12)));
                text.append("oob$$".charAt(any(5)));
            }
            text.append(any(12) == 0 ? "" : "!");
            type(any(4) == 0 ? spoiled(text.toString()) : text.toString());
            int answer = 0;
            Object got = call("paste", page(), place(w), place(h));
            if (got instanceof Integer) {
                answer = (Integer) got;
            }
            if (answer < 0 && any(5) > 0) {
                call("clearText");
            }
        }

        private void look() throws Exception {
            int c = any(6) - 1;
            int r = any(5) - 1;
            switch (any(24)) {
                case 0: call("shiftX"); call("shiftY"); call("skew"); call("turned"); break;
                case 1: call("mismatch"); call("similarity"); break;
                case 2: call("mismatchAt", any(35) - 17, any(35) - 17); break;
                case 3: call("blockDifference", any(8) - 1, any(8) - 1); break;
                case 4: call("regions"); break;
                case 5: call("regionAt", place(w), place(h)); break;
                case 6: call("regionLeft", r); call("regionTop", r); break;
                case 7: call("regionRight", r); call("regionBottom", r); break;
                case 8: call("missingPixels", r); call("addedPixels", r); break;
                case 9: call("changes"); break;
                case 10: call("changeKind", c); call("changeRegion", c); break;
                case 11: call("changeTarget", c); call("changeLine", c); break;
                case 12: call("moveX", c); call("moveY", c); break;
                case 13: call("changePixels", c); break;
                case 14: call("reportChar", any(160) - 1); break;
                case 15: call("learn", c); break;
                case 16: call("stampOf", c); break;
                case 17: if (any(4) == 0) call("forgetStamp", any(9) - 1); break;
                case 18: call("accept", c); break;
                case 19: call("leastNoise", any(6) - 1); break;
                case 20: call("components", page()); call("lines", page()); break;
                case 21: call("lineTop", page(), any(4) - 1); call("lineBottom", page(), any(4) - 1); break;
                case 22: call("words", page(), any(4) - 1, any(6) == 0 ? any(70) - 2 : 1 + any(3)); break;
                default: call("ink", page(), place(w), place(h), size(w), size(h)); break;
            }
        }

        private void compareAll() throws Exception {
            call("compare");
            call("shiftX");
            call("shiftY");
            call("skew");
            call("turned");
            call("mismatch");
            if (any(4) > 0) {
                return;
            }
            int n = model.regions();
            for (int r = 0; r < n && r < 12; r++) {
                call("regionLeft", r);
                call("regionTop", r);
                call("regionRight", r);
                call("regionBottom", r);
            }
            for (int c = 0; c < model.changes() && c < 8; c++) {
                call("changeKind", c);
                call("changeRegion", c);
                call("changeTarget", c);
                call("moveX", c);
                call("changeLine", c);
            }
            for (int n2 = 0; n2 < 5; n2++) {
                call("leastNoise", n2);
            }
            if (any(3) == 0) {
                // More calls than an object is promised for do no harm to a model test.
                for (int i = 0; i < model.reportText.length() + 2; i++) {
                    call("reportChar", i);
                }
            }
        }

        private void edit() throws Exception {
            switch (any(15)) {
                case 0: call("setRow", page(), place(h), random.nextLong()); break;
                case 1: case 2: case 3: call("fill", page(), place(w), place(h), size(9), size(9), any(3) > 0); break;
                case 4: call("copy", 0, 1, any(9) - 4, any(9) - 4); break;
                case 5: call("copy", page(), page(), any(5) == 0 ? place(70) : any(7) - 3, any(5) == 0 ? place(70) : any(7) - 3); break;
                case 6: call("merge", page()); break;
                case 7: call("flip", page(), any(8) == 0 ? any(6) - 1 : 2); break;
                case 8: call("despeckle", page(), any(6) == 0 ? any(70) - 2 : any(5)); break;
                case 9: case 10: paste(); break;
                case 11: if (any(3) == 0) call("undo"); break;
                case 12: call("addMask", any(w + 2) - 1, any(h + 2) - 1, any(10), any(10)); break;
                case 13: call("removeMask", any(4) - 1); break;
                default: {
                    int x = any(w);
                    int y = any(h);
                    int sw = 1 + any(4);
                    int sh = 1 + any(4);
                    call("fill", 0, x, y, sw, sh, true);
                    call("fill", 1, any(w), any(h), sw, sh, true);
                    break;
                }
            }
        }

        void go() throws Exception {
            int start = any(4);
            if (start > 0) {
                int n = 2 + any(12);
                for (int i = 0; i < n; i++) {
                    call("fill", 0, any(w), any(h), 1 + any(start * 4), 1 + any(start * 3), true);
                }
                if (any(3) == 0) {
                    for (int y = 0; y < h; y++) {
                        call("setRow", 0, y, random.nextLong() & random.nextLong() & random.nextLong());
                    }
                }
                call("copy", 0, 1, any(17) - 8, any(17) - 8);
            }
            while (calls < CALLS) {
                int k = any(20);
                if (k < 6) {
                    edit();
                } else if (k < 8) {
                    configure();
                } else if (k < 10) {
                    compareAll();
                } else {
                    look();
                }
            }
            for (int p = 0; p < 4; p++) {
                call("fingerprint", p);
                for (int y = -1; y <= h; y++) {
                    call("row", p, y);
                }
            }
        }
    }

    /** The document, word by word, with a boolean for each pixel. */
    public static final class Model {
        static final String[] NAMES = {"block", "noise", "jitter", "speckle", "search", "skew", "turn", "order", "pair", "stamps"};
        static final int[] LEAST = {4, 0, 0, 0, 0, 0, 0, 0, 1, 0};
        static final int[] GREATEST = {16, 256, 2, 9, 16, 2, 1, 1, 99, 1};
        static final String[][] WORDS = {null, null, null, null, null, null, {"off", "on"}, {"rows", "columns"}, null, {"keep", "hide"}};
        final int w;
        final int h;
        boolean[][][] pages;
        final List<boolean[][][]> history = new ArrayList<>();
        String text = "";
        int[] values = {8, 2, 1, 0, 8, 0, 0, 0, 4, 0};
        List<Integer> given = new ArrayList<>();
        final List<int[]> masks = new ArrayList<>();
        final List<String> stamps = new ArrayList<>();
        boolean compared = false;
        boolean[][] o;
        boolean[][] t;
        boolean[][] a;
        int dx, dy, s, turn, cost, side;
        int[][] diff;
        List<Reg> regs;
        List<Chg> chgs;
        String reportText = "";

        static final class Pt {
            final int x;
            final int y;
            Pt(int x, int y) { this.x = x; this.y = y; }
        }

        static final class Reg {
            final List<Pt> missing = new ArrayList<>();
            final List<Pt> added = new ArrayList<>();
            final List<int[]> blocks = new ArrayList<>();
            int l, tp, r, b, found, band;
            Reg pairedWith;
            boolean addedPaired;
        }

        static final class Chg {
            Reg reg;
            int kind;
            List<Pt> part;
            int stamp;
            Reg target;
            int line;
        }

        public Model(int width, int height) {
            w = width < 8 ? 8 : width > 64 ? 64 : width;
            h = height < 8 ? 8 : height > 64 ? 64 : height;
            pages = new boolean[4][w][h];
        }

        private void page(int p) {
            if (p < 0 || p > 3) throw new IndexOutOfBoundsException();
        }

        private boolean[][][] cloned() {
            boolean[][][] c = new boolean[4][w][];
            for (int p = 0; p < 4; p++) for (int x = 0; x < w; x++) c[p][x] = pages[p][x].clone();
            return c;
        }

        private boolean at(boolean[][] img, long x, long y) {
            return x >= 0 && y >= 0 && x < w && y < h && img[(int) x][(int) y];
        }

        private boolean[][][] edit() {
            boolean[][][] before = cloned();
            history.add(before);
            if (history.size() > 8) history.remove(0);
            return before;
        }

        private int changed(boolean[][][] before, int p) {
            int n = 0;
            for (int x = 0; x < w; x++) for (int y = 0; y < h; y++) if (before[p][x][y] != pages[p][x][y]) n++;
            return n;
        }

        public long row(int p, int y) {
            page(p);
            if (y < 0 || y >= h) throw new IndexOutOfBoundsException();
            long bits = 0;
            for (int x = 0; x < w; x++) if (pages[p][x][y]) bits += 1L << x;
            return bits;
        }

        public int setRow(int p, int y, long bits) {
            page(p);
            if (y < 0 || y >= h) throw new IndexOutOfBoundsException();
            boolean[][][] before = edit();
            for (int x = 0; x < w; x++) pages[p][x][y] = (bits >> x & 1) == 1;
            return changed(before, p);
        }

        public int fill(int p, int x, int y, int rw, int rh, boolean ink) {
            page(p);
            if (rw < 0 || rh < 0) throw new IllegalArgumentException();
            boolean[][][] before = edit();
            for (int i = 0; i < w; i++) for (int j = 0; j < h; j++) {
                if (i >= x && i < (long) x + rw && j >= y && j < (long) y + rh) pages[p][i][j] = ink;
            }
            return changed(before, p);
        }

        public int copy(int from, int to, int mx, int my) {
            page(from);
            page(to);
            boolean[][][] before = edit();
            for (int i = 0; i < w; i++) for (int j = 0; j < h; j++) {
                pages[to][i][j] = at(before[from], (long) i - mx, (long) j - my);
            }
            return changed(before, to);
        }

        public int merge(int to) {
            page(to);
            boolean[][][] before = edit();
            for (int i = 0; i < w; i++) for (int j = 0; j < h; j++) {
                int n = 0;
                for (int p = 1; p <= 3; p++) if (before[p][i][j]) n++;
                pages[to][i][j] = n >= 2;
            }
            return changed(before, to);
        }

        public int flip(int p, int kind) {
            page(p);
            if (kind < 0 || kind > 2) throw new IllegalArgumentException();
            boolean[][][] before = edit();
            for (int i = 0; i < w; i++) for (int j = 0; j < h; j++) {
                int x = kind == 1 ? i : w - 1 - i;
                int y = kind == 0 ? j : h - 1 - j;
                pages[p][i][j] = before[p][x][y];
            }
            return changed(before, p);
        }

        private List<List<Pt>> comps(boolean[][] img) {
            List<List<Pt>> all = new ArrayList<>();
            boolean[][] seen = new boolean[w][h];
            for (int i = 0; i < w; i++) for (int j = 0; j < h; j++) {
                if (img[i][j] && !seen[i][j]) {
                    List<Pt> comp = new ArrayList<>();
                    comp.add(new Pt(i, j));
                    seen[i][j] = true;
                    for (int k = 0; k < comp.size(); k++) {
                        Pt q = comp.get(k);
                        for (int u = -1; u <= 1; u++) for (int v = -1; v <= 1; v++) {
                            if (at(img, q.x + u, q.y + v) && !seen[q.x + u][q.y + v]) {
                                seen[q.x + u][q.y + v] = true;
                                comp.add(new Pt(q.x + u, q.y + v));
                            }
                        }
                    }
                    all.add(comp);
                }
            }
            return all;
        }

        private int strip(boolean[][] img, int size) {
            int n = 0;
            for (List<Pt> comp : comps(img)) {
                if (comp.size() < size) {
                    n++;
                    for (Pt q : comp) img[q.x][q.y] = false;
                }
            }
            return n;
        }

        public int despeckle(int p, int size) {
            page(p);
            if (size < 0 || size > 64) throw new IllegalArgumentException();
            edit();
            return strip(pages[p], size);
        }

        /** The error of a pattern, found character by character: the least of all that apply. */
        private int patternError() {
            int mark = text.indexOf('!');
            int least = mark < 0 ? text.length() : Integer.MAX_VALUE;
            for (int i = 0; i < text.length(); i++) {
                char c = text.charAt(i);
                boolean digit = c >= '0' && c <= '9';
                if (mark >= 0 && i > mark) least = Math.min(least, i);
                if (!digit && "ob$!".indexOf(c) < 0) least = Math.min(least, i);
                boolean digitBefore = i > 0 && Character.isDigit(text.charAt(i - 1));
                if (i == mark && digitBefore) least = Math.min(least, i);
                if (digit && !digitBefore) {
                    int e = i;
                    while (e < text.length() && Character.isDigit(text.charAt(e))) e++;
                    if (e - i > 2) {
                        least = Math.min(least, i + 2);
                    } else {
                        int v = Integer.parseInt(text.substring(i, e));
                        if (v < 1 || v > 64) least = Math.min(least, i);
                    }
                }
            }
            return least == Integer.MAX_VALUE ? -1 : least;
        }

        public int paste(int p, int x, int y) {
            page(p);
            int e = patternError();
            if (e >= 0) return -1 - e;
            boolean[][][] before = edit();
            long cx = x;
            long cy = y;
            String count = "";
            for (char c : text.toCharArray()) {
                if (Character.isDigit(c)) {
                    count += c;
                    continue;
                }
                int n = count.isEmpty() ? 1 : Integer.parseInt(count);
                count = "";
                if (c == '$') {
                    cy += n;
                    cx = x;
                } else if (c != '!') {
                    for (int k = 0; k < n; k++) {
                        if (cx >= 0 && cx < w && cy >= 0 && cy < h) pages[p][(int) cx][(int) cy] = c == 'o';
                        cx++;
                    }
                }
            }
            text = "";
            return changed(before, p);
        }

        public int components(int p) {
            page(p);
            return comps(pages[p]).size();
        }

        private List<int[]> lineList(boolean[][] img) {
            List<int[]> all = new ArrayList<>();
            int[] open = null;
            for (int y = 0; y < h; y++) {
                boolean ink = false;
                for (int x = 0; x < w; x++) ink |= img[x][y];
                if (!ink) {
                    open = null;
                } else if (open == null) {
                    open = new int[] {y, y};
                    all.add(open);
                } else {
                    open[1] = y;
                }
            }
            return all;
        }

        private int[] line(int p, int line) {
            page(p);
            List<int[]> all = lineList(pages[p]);
            if (line < 0 || line >= all.size()) throw new IndexOutOfBoundsException();
            return all.get(line);
        }

        public int lines(int p) {
            page(p);
            return lineList(pages[p]).size();
        }

        public int lineTop(int p, int line) {
            return line(p, line)[0];
        }

        public int lineBottom(int p, int line) {
            return line(p, line)[1];
        }

        public int words(int p, int line, int gap) {
            int[] l = line(p, line);
            if (gap < 1 || gap > 64) throw new IllegalArgumentException();
            List<Integer> cols = new ArrayList<>();
            for (int x = 0; x < w; x++) {
                boolean ink = false;
                for (int y = l[0]; y <= l[1]; y++) ink |= pages[p][x][y];
                if (ink) cols.add(x);
            }
            int n = 1;
            for (int k = 1; k < cols.size(); k++) if (!(cols.get(k) - cols.get(k - 1) - 1 < gap)) n++;
            return n;
        }

        public int ink(int p, int x, int y, int rw, int rh) {
            page(p);
            if (rw < 0 || rh < 0) throw new IllegalArgumentException();
            int n = 0;
            for (int i = 0; i < w; i++) for (int j = 0; j < h; j++) {
                if (i >= x && i < (long) x + rw && j >= y && j < (long) y + rh && pages[p][i][j]) n++;
            }
            return n;
        }

        public long fingerprint(int p) {
            page(p);
            long f = 17;
            f = 31 * f + w;
            f = 31 * f + h;
            for (int y = 0; y < h; y++) f = 31 * f + row(p, y);
            return f;
        }

        public int undo() {
            if (history.isEmpty()) throw new IllegalStateException();
            pages = history.remove(history.size() - 1);
            return history.size();
        }

        public int type(int c) {
            if (c < 32 || c > 126) throw new IllegalArgumentException();
            if (text.length() == 80) throw new IllegalStateException();
            text += (char) c;
            return text.length();
        }

        public int clearText() {
            int n = text.length();
            text = "";
            return n;
        }

        private int run(int i, boolean digits) {
            while (i < text.length()) {
                char c = text.charAt(i);
                if (!(c >= 'a' && c <= 'z' || digits && c >= '0' && c <= '9')) break;
                i++;
            }
            return i;
        }

        public int configure() {
            int[] next = values.clone();
            List<Integer> order = new ArrayList<>(given);
            int n = 0;
            int i = 0;
            boolean more = !text.isEmpty();
            while (more) {
                int e = run(i, false);
                int k = Arrays.asList(NAMES).indexOf(text.substring(i, e));
                if (k < 0) return -1 - i;
                if (e == text.length() || text.charAt(e) != '=') return -1 - e;
                int v = run(e + 1, true);
                String value = text.substring(e + 1, v);
                if (WORDS[k] != null) {
                    next[k] = Arrays.asList(WORDS[k]).indexOf(value);
                    if (next[k] < 0) return -1 - (e + 1);
                } else {
                    if (!value.matches("[0-9]{1,3}")) return -1 - (e + 1);
                    next[k] = Integer.parseInt(value);
                    if (next[k] < LEAST[k] || next[k] > GREATEST[k]) return -1 - (e + 1);
                }
                if (!order.contains(k)) order.add(k);
                n++;
                more = v < text.length();
                if (more && text.charAt(v) != ';') return -1 - v;
                i = v + 1;
            }
            values = next;
            given = order;
            text = "";
            return n;
        }

        public int setting(int i) {
            if (i < 0 || i > 9) throw new IndexOutOfBoundsException();
            return values[i];
        }

        public int configChar(int i) {
            if (i < 0) throw new IndexOutOfBoundsException();
            StringBuilder b = new StringBuilder();
            for (int k : given) {
                if (b.length() > 0) b.append(';');
                b.append(NAMES[k]).append('=').append(WORDS[k] == null ? "" + values[k] : WORDS[k][values[k]]);
            }
            return i < b.length() ? b.charAt(i) : -1;
        }

        public int addMask(int x, int y, int mw, int mh) {
            if (x < 0 || y < 0 || mw < 1 || mh < 1 || (long) x + mw > w || (long) y + mh > h) throw new IllegalArgumentException();
            if (masks.size() == 6) throw new IllegalStateException();
            masks.add(new int[] {x, y, mw, mh});
            return masks.size();
        }

        public int removeMask(int i) {
            if (i < 0 || i >= masks.size()) throw new IndexOutOfBoundsException();
            masks.remove(i);
            return masks.size();
        }

        private boolean[][] view(boolean[][] scan, int tt, int ss) {
            boolean[][] v = new boolean[w][h];
            for (int x = 0; x < w; x++) for (int y = 0; y < h; y++) {
                int sx = x + (int) Math.floor(ss * y / 16.0);
                v[x][y] = tt == 0 ? at(scan, sx, y) : at(scan, w - 1 - sx, h - 1 - y);
            }
            return v;
        }

        private int cost(boolean[][] v, int mx, int my) {
            int n = 0;
            for (int x = 0; x < w; x++) for (int y = 0; y < h; y++) if (o[x][y] != at(v, x + mx, y + my)) n++;
            return n;
        }

        private int[][] cells(boolean[][] img) {
            int[][] c = new int[(w + 3) / 4][(h + 3) / 4];
            for (int x = 0; x < w; x++) for (int y = 0; y < h; y++) if (img[x][y]) c[x / 4][y / 4]++;
            return c;
        }

        private int coarse(int[][] co, int[][] cv, int ca, int cb) {
            int sum = 0;
            for (int i = 0; i < co.length; i++) for (int j = 0; j < co[0].length; j++) {
                int p = i + ca;
                int q = j + cb;
                int other = p >= 0 && q >= 0 && p < co.length && q < co[0].length ? cv[p][q] : 0;
                sum += Math.abs(co[i][j] - other);
            }
            return sum;
        }

        /** Each candidate is {cost, |x| + |y|, y, x}; the least in this order. */
        private static int[] least(List<int[]> candidates) {
            int[] best = null;
            for (int[] c : candidates) if (best == null || Arrays.compare(c, best) < 0) best = c;
            return best;
        }

        private int[] shift(boolean[][] v) {
            int search = values[4];
            List<int[]> list = new ArrayList<>();
            int[][] co = cells(o);
            int[][] cv = cells(v);
            for (int ca = -9; ca <= 9; ca++) for (int cb = -9; cb <= 9; cb++) {
                if (Math.abs(4 * ca) <= search && Math.abs(4 * cb) <= search) {
                    list.add(new int[] {coarse(co, cv, ca, cb), Math.abs(ca) + Math.abs(cb), cb, ca});
                }
            }
            int[] c = least(list);
            list.clear();
            for (int x = 4 * c[3] - 3; x <= 4 * c[3] + 3; x++) for (int y = 4 * c[2] - 3; y <= 4 * c[2] + 3; y++) {
                if (Math.abs(x) <= search && Math.abs(y) <= search) {
                    list.add(new int[] {cost(v, x, y), Math.abs(x) + Math.abs(y), y, x});
                }
            }
            return least(list);
        }

        private boolean near(boolean[][] img, int x, int y) {
            for (int u = -values[2]; u <= values[2]; u++) for (int v = -values[2]; v <= values[2]; v++) {
                if (at(img, x + u, y + v)) return true;
            }
            return false;
        }

        private boolean masked(int x, int y) {
            for (int[] m : masks) if (x >= m[0] && x < m[0] + m[2] && y >= m[1] && y < m[1] + m[3]) return true;
            return false;
        }

        private void register() {
            o = cloned()[0];
            strip(o, values[3]);
            boolean[][] scan = cloned()[1];
            strip(scan, values[3]);
            int[] best = null;
            for (int tt = 0; tt <= values[6]; tt++) for (int ss = -values[5]; ss <= values[5]; ss++) {
                int[] f = shift(view(scan, tt, ss));
                int[] c = {f[0], tt, Math.abs(ss), ss, f[3], f[2]};
                if (best == null || Arrays.compare(c, best) < 0) best = c;
            }
            cost = best[0];
            turn = best[1];
            s = best[3];
            dx = best[4];
            dy = best[5];
            t = view(scan, turn, s);
            a = new boolean[w][h];
            for (int x = 0; x < w; x++) for (int y = 0; y < h; y++) a[x][y] = at(t, x + dx, y + dy);
        }

        private List<Reg> group(int noise) {
            List<Reg> all = new ArrayList<>();
            boolean[][] seen = new boolean[diff.length][diff[0].length];
            for (int j = 0; j < diff[0].length; j++) for (int i = 0; i < diff.length; i++) {
                if (diff[i][j] > noise && !seen[i][j]) {
                    Reg reg = new Reg();
                    reg.found = all.size();
                    all.add(reg);
                    spread(reg, seen, i, j, noise);
                }
            }
            return all;
        }

        private void spread(Reg reg, boolean[][] seen, int i, int j, int noise) {
            if (i < 0 || j < 0 || i >= diff.length || j >= diff[0].length || seen[i][j] || diff[i][j] <= noise) return;
            seen[i][j] = true;
            reg.blocks.add(new int[] {i, j});
            spread(reg, seen, i - 1, j, noise);
            spread(reg, seen, i + 1, j, noise);
            spread(reg, seen, i, j - 1, noise);
            spread(reg, seen, i, j + 1, noise);
        }

        private static int[] box(List<Pt> part) {
            int[] b = {99, 99, -1, -1};
            for (Pt q : part) {
                b[0] = Math.min(b[0], q.x);
                b[1] = Math.min(b[1], q.y);
                b[2] = Math.max(b[2], q.x);
                b[3] = Math.max(b[3], q.y);
            }
            return b;
        }

        private static String shape(List<Pt> part) {
            int[] b = box(part);
            List<String> all = new ArrayList<>();
            for (Pt q : part) all.add((q.x - b[0]) + "," + (q.y - b[1]));
            all.sort(null);
            return (b[2] - b[0] + 1) + "x" + (b[3] - b[1] + 1) + all;
        }

        private void order() {
            boolean c = values[7] == 1;
            Comparator<Reg> byTop = Comparator.comparingInt(r -> c ? r.l : r.tp);
            Comparator<Reg> byLeft = Comparator.comparingInt(r -> c ? r.tp : r.l);
            Comparator<Reg> byFound = Comparator.comparingInt(r -> r.found);
            regs.sort(byTop.thenComparing(byLeft).thenComparing(byFound));
            int end = -1;
            int band = -1;
            for (Reg r : regs) {
                int start = c ? r.l : r.tp;
                int stop = c ? r.r : r.b;
                if (band < 0 || start > end) {
                    band++;
                    end = stop;
                } else if (stop > end) {
                    end = stop;
                }
                r.band = band;
            }
            Comparator<Reg> byBand = Comparator.comparingInt(r -> r.band);
            regs.sort(byBand.thenComparing(byLeft).thenComparing(byTop).thenComparing(byFound));
        }

        private int lineOf(boolean[][] img, int y) {
            List<int[]> all = lineList(img);
            for (int k = 0; k < all.size(); k++) if (all.get(k)[0] <= y && y <= all.get(k)[1]) return k;
            return -1;
        }

        private void listChange(Reg reg, int kind, List<Pt> part) {
            Chg c = new Chg();
            c.reg = reg;
            c.kind = kind;
            c.part = part;
            c.target = kind == 3 ? reg.pairedWith : null;
            c.stamp = stamps.indexOf(shape(part));
            c.line = lineOf(kind == 2 ? a : o, box(part)[1]);
            if (kind != 3 && values[9] == 1 && c.stamp >= 0) return;
            chgs.add(c);
        }

        public int compare() {
            register();
            side = values[0];
            diff = new int[(w + side - 1) / side][(h + side - 1) / side];
            boolean[][] mis = new boolean[w][h];
            boolean[][] add = new boolean[w][h];
            for (int x = 0; x < w; x++) for (int y = 0; y < h; y++) {
                mis[x][y] = o[x][y] && !near(a, x, y) && !masked(x, y);
                add[x][y] = a[x][y] && !near(o, x, y) && !masked(x, y);
                if (mis[x][y] || add[x][y]) diff[x / side][y / side]++;
            }
            regs = group(values[1]);
            for (Reg r : regs) {
                for (int x = 0; x < w; x++) for (int y = 0; y < h; y++) {
                    if (owns(r, x, y)) {
                        if (mis[x][y]) r.missing.add(new Pt(x, y));
                        if (add[x][y]) r.added.add(new Pt(x, y));
                    }
                }
                List<Pt> all = new ArrayList<>(r.missing);
                all.addAll(r.added);
                int[] b = box(all);
                r.l = b[0];
                r.tp = b[1];
                r.r = b[2];
                r.b = b[3];
            }
            order();
            for (Reg r : regs) {
                if (r.missing.size() >= values[8]) {
                    for (Reg q : regs) {
                        if (r.pairedWith == null && !q.addedPaired && !q.added.isEmpty() && shape(q.added).equals(shape(r.missing))) {
                            r.pairedWith = q;
                            q.addedPaired = true;
                        }
                    }
                }
            }
            chgs = new ArrayList<>();
            for (Reg r : regs) {
                if (!r.missing.isEmpty()) listChange(r, r.pairedWith != null ? 3 : 1, r.missing);
                if (!r.added.isEmpty() && !r.addedPaired) listChange(r, 2, r.added);
            }
            compared = true;
            write();
            return chgs.size();
        }

        private boolean owns(Reg r, int x, int y) {
            for (int[] b : r.blocks) if (x / side == b[0] && y / side == b[1]) return true;
            return false;
        }

        private void write() {
            StringBuilder b = new StringBuilder("shift " + dx + "," + dy + " skew " + s + (turn == 1 ? " turned" : "") + "\n");
            b.append(chgs.size()).append(chgs.size() == 1 ? " change\n" : " changes\n");
            for (Chg c : chgs) {
                int[] p = box(c.part);
                if (c.kind == 3) {
                    int[] q = box(c.target.added);
                    b.append("moved " + c.part.size() + " from " + p[0] + "," + p[1] + " to " + q[0] + "," + q[1]);
                } else {
                    b.append((c.kind == 1 ? "removed " : "added ") + c.part.size() + " at " + p[0] + "," + p[1]);
                }
                b.append(" size " + (p[2] - p[0] + 1) + "x" + (p[3] - p[1] + 1));
                if (c.stamp >= 0) b.append(" stamp " + c.stamp);
                b.append("\n");
            }
            reportText = b.toString();
        }

        private void need() {
            if (!compared) throw new IllegalStateException();
        }

        private Reg reg(int r) {
            need();
            if (r < 0 || r >= regs.size()) throw new IndexOutOfBoundsException();
            return regs.get(r);
        }

        private Chg chg(int c) {
            need();
            if (c < 0 || c >= chgs.size()) throw new IndexOutOfBoundsException();
            return chgs.get(c);
        }

        public int shiftX() { need(); return dx; }
        public int shiftY() { need(); return dy; }
        public int skew() { need(); return s; }
        public boolean turned() { need(); return turn == 1; }
        public int mismatch() { need(); return cost; }
        public int similarity() { need(); return (w * h - cost) * 1000 / (w * h); }

        public int mismatchAt(int mx, int my) {
            need();
            if (mx < -16 || mx > 16 || my < -16 || my > 16) throw new IllegalArgumentException();
            return cost(t, mx, my);
        }

        public int blockDifference(int i, int j) {
            need();
            if (i < 0 || j < 0 || i >= diff.length || j >= diff[0].length) throw new IndexOutOfBoundsException();
            return diff[i][j];
        }

        public int regions() { need(); return regs.size(); }

        public int regionAt(int x, int y) {
            need();
            if (x < 0 || y < 0 || x >= w || y >= h) throw new IndexOutOfBoundsException();
            for (int r = 0; r < regs.size(); r++) if (owns(regs.get(r), x, y)) return r;
            return -1;
        }

        public int regionLeft(int r) { return reg(r).l; }
        public int regionTop(int r) { return reg(r).tp; }
        public int regionRight(int r) { return reg(r).r; }
        public int regionBottom(int r) { return reg(r).b; }
        public int missingPixels(int r) { return reg(r).missing.size(); }
        public int addedPixels(int r) { return reg(r).added.size(); }
        public int changes() { need(); return chgs.size(); }
        public int changeKind(int c) { return chg(c).kind; }
        public int changeRegion(int c) { return regs.indexOf(chg(c).reg); }
        public int changeTarget(int c) { return chg(c).kind == 3 ? regs.indexOf(chg(c).target) : -1; }
        public int moveX(int c) { return chg(c).kind == 3 ? box(chg(c).target.added)[0] - box(chg(c).part)[0] : 0; }
        public int moveY(int c) { return chg(c).kind == 3 ? box(chg(c).target.added)[1] - box(chg(c).part)[1] : 0; }
        public int changePixels(int c) { return chg(c).part.size(); }
        public int changeLine(int c) { return chg(c).line; }

        public int reportChar(int i) {
            need();
            if (i < 0) throw new IndexOutOfBoundsException();
            return i < reportText.length() ? reportText.charAt(i) : -1;
        }

        public int learn(int c) {
            if (!compared) throw new IndexOutOfBoundsException();
            String shape = shape(chg(c).part);
            if (stamps.contains(shape)) return stamps.indexOf(shape);
            if (stamps.size() == 7) throw new IllegalStateException();
            stamps.add(shape);
            return stamps.size() - 1;
        }

        public int stampOf(int c) { return stamps.indexOf(shape(chg(c).part)); }

        public int forgetStamp(int i) {
            if (i < 0 || i >= stamps.size()) throw new IndexOutOfBoundsException();
            stamps.remove(i);
            return stamps.size();
        }

        public int accept(int c) {
            Chg g = chg(c);
            boolean[][][] before = edit();
            for (Pt q : g.part) pages[0][q.x][q.y] = g.kind == 2;
            if (g.kind == 3) for (Pt q : g.target.added) pages[0][q.x][q.y] = true;
            return changed(before, 0);
        }

        public int leastNoise(int n) {
            need();
            if (n < 0) throw new IllegalArgumentException();
            int noise = 0;
            while (group(noise).size() > n) noise++;
            return noise;
        }
    }
}
