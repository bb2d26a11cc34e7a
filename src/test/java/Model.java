import java.util.ArrayDeque;
import java.util.ArrayList;
import java.util.Arrays;
import java.util.List;

/**
 * The document once more, as slowly and literally as it can be said: grids of cells, lists, all plans
 * tried one by one. ModelTest compares StripDie with it.
 */
final class Model {
    static final class Op {
        boolean bend;
        int x;
        int y;
        int w;
        int h;
        int station = -1;

        Op copy() {
            Op o = new Op();
            o.bend = bend;
            o.x = x;
            o.y = y;
            o.w = w;
            o.h = h;
            o.station = station;
            return o;
        }

        int force() {
            return bend ? w : 2 * (w + h);
        }

        boolean has(int cx, int cy) {
            return cx >= x && cx < x + w && cy >= y && cy < y + h;
        }
    }

    static final class Pitch {
        int station;
        int offset;
        boolean spoiled;
        boolean[][] there;
        List<Op> bends = new ArrayList<>();
    }

    static final class State {
        int columns = 6;
        int rows = 4;
        int carrier;
        int[] settings = {30, 0, 1, 5, 2};
        int[][] marks = new int[6][10];
        List<Op> ops = new ArrayList<>();
        boolean[] pilots = new boolean[8];
        List<Pitch> press = new ArrayList<>();
        int strokes;
        int good;
        int bad;
        int slugs;

        State copy() {
            State s = new State();
            s.columns = columns;
            s.rows = rows;
            s.carrier = carrier;
            s.settings = settings.clone();
            for (int y = 0; y < 6; y++) {
                s.marks[y] = marks[y].clone();
            }
            for (Op o : ops) {
                s.ops.add(o.copy());
            }
            s.pilots = pilots.clone();
            for (Pitch p : press) {
                Pitch q = new Pitch();
                q.station = p.station;
                q.offset = p.offset;
                q.spoiled = p.spoiled;
                q.there = new boolean[6][];
                for (int y = 0; y < 6; y++) {
                    q.there[y] = p.there[y].clone();
                }
                for (Op o : p.bends) {
                    q.bends.add(s.ops.get(ops.indexOf(o)));
                }
                s.press.add(q);
            }
            s.strokes = strokes;
            s.good = good;
            s.bad = bad;
            s.slugs = slugs;
            return s;
        }
    }

    State s = new State();
    final ArrayDeque<State> stack = new ArrayDeque<>();
    String text = "";
    private boolean running;

    private void save() {
        if (!running) {
            stack.addLast(s.copy());
            if (stack.size() > 4) {
                stack.removeFirst();
            }
        }
    }

    private static void argument(boolean fine) {
        if (!fine) {
            throw new IllegalArgumentException();
        }
    }

    private static void state(boolean fine) {
        if (!fine) {
            throw new IllegalStateException();
        }
    }

    private void index(int operation) {
        if (operation < 0 || operation >= s.ops.size()) {
            throw new IndexOutOfBoundsException();
        }
    }

    private boolean fits(long x, long y, long w, long h) {
        return w >= 1 && h >= 1 && x >= 0 && y >= 0 && x + w <= s.columns && y + h <= s.rows;
    }

    int begin(int columns, int rows) {
        argument(columns >= 2 && columns <= 10 && rows >= 2 && rows <= 6);
        save();
        State n = new State();
        n.columns = columns;
        n.rows = rows;
        n.carrier = s.carrier;
        n.settings = s.settings.clone();
        int before = s.ops.size();
        s = n;
        return before;
    }

    int mark(int x, int y, int w, int h, int mark) {
        argument(fits(x, y, w, h) && mark >= 0 && mark <= 2);
        save();
        int other = 0;
        for (int cy = y; cy < y + h; cy++) {
            for (int cx = x; cx < x + w; cx++) {
                if (s.marks[cy][cx] != mark) {
                    other++;
                    s.marks[cy][cx] = mark;
                }
            }
        }
        return other;
    }

    int setCarrier(int carrier) {
        argument(carrier == 0 || carrier == 1 || carrier == 2);
        save();
        int before = s.carrier;
        s.carrier = carrier;
        return before;
    }

    int set(int what, int value) {
        int[][] ranges = {{1, 999}, {0, 3}, {0, 9}, {0, 50}, {0, 50}};
        argument(what >= 0 && what <= 4 && value >= ranges[what][0] && value <= ranges[what][1]);
        save();
        int before = s.settings[what];
        s.settings[what] = value;
        return before;
    }

    int addPunch(int x, int y, int w, int h) {
        return add(false, x, y, w, h);
    }

    int addBend(int x, int y, int length) {
        return add(true, x, y, length, 1);
    }

    int add(boolean bend, int x, int y, int w, int h) {
        argument(fits(x, y, w, h));
        state(s.ops.size() < 6);
        save();
        Op o = new Op();
        o.bend = bend;
        o.x = x;
        o.y = y;
        o.w = w;
        o.h = h;
        s.ops.add(o);
        return s.ops.size() - 1;
    }

    int dropOperation(int operation) {
        index(operation);
        save();
        Op gone = s.ops.remove(operation);
        for (Pitch p : s.press) {
            p.bends.remove(gone);
        }
        return s.ops.size();
    }

    int setStation(int operation, int station) {
        index(operation);
        argument(station >= -1 && station <= 7);
        save();
        int before = s.ops.get(operation).station;
        s.ops.get(operation).station = station;
        return before;
    }

    int usePlan() {
        int[] best = best();
        state(best != null);
        save();
        for (int o = 0; o < best.length; o++) {
            s.ops.get(o).station = best[o];
        }
        return stations(best);
    }

    int setPilot(int station, boolean pilot) {
        argument(station >= 0 && station <= 7);
        save();
        s.pilots[station] = pilot;
        return pilots();
    }

    private int pilots() {
        int count = 0;
        for (boolean p : s.pilots) {
            count += p ? 1 : 0;
        }
        return count;
    }

    int stroke() {
        save();
        return makeStroke();
    }

    private int makeStroke() {
        s.strokes++;
        int[] cut = new int[2];
        for (Pitch p : s.press) {
            p.station++;
            p.offset += s.settings[2];
        }
        Pitch fresh = new Pitch();
        fresh.there = new boolean[6][10];
        for (int y = 0; y < s.rows; y++) {
            for (int x = 0; x < s.columns; x++) {
                fresh.there[y][x] = true;
            }
        }
        s.press.add(fresh);
        List<Pitch> stay = new ArrayList<>();
        for (Pitch p : s.press) {
            if (p.station >= stations(plan())) {
                cut[good(p) ? 0 : 1]++;
            } else {
                stay.add(p);
            }
        }
        s.press = stay;
        s.good += cut[0];
        s.bad += cut[1];
        for (Pitch p : s.press) {
            if (s.pilots[p.station]) {
                if (p.offset <= s.settings[3]) {
                    p.offset = 0;
                } else {
                    p.spoiled = true;
                }
            }
        }
        for (Pitch p : s.press) {
            work(p);
        }
        return cut[0] + cut[1] == 0 ? 0 : cut[1] == 0 ? 1 : 2;
    }

    private boolean good(Pitch p) {
        boolean fine = !p.spoiled && p.bends.containsAll(bendsOfDie());
        for (int y = 0; y < s.rows; y++) {
            for (int x = 0; x < s.columns; x++) {
                if (part(x, y) && !p.there[y][x]) {
                    fine = false;
                }
                if (neither(x, y) && p.there[y][x]) {
                    fine = false;
                }
            }
        }
        return fine;
    }

    private List<Op> bendsOfDie() {
        List<Op> bends = new ArrayList<>();
        for (Op o : s.ops) {
            if (o.bend) {
                bends.add(o);
            }
        }
        return bends;
    }

    private void work(Pitch p) {
        boolean any = false;
        for (Op o : s.ops) {
            if (o.station != p.station) {
                continue;
            }
            any = true;
            if (o.bend) {
                if (!p.bends.contains(o)) {
                    p.bends.add(o);
                }
                continue;
            }
            for (int y = 0; y < s.rows; y++) {
                for (int x = 0; x < s.columns; x++) {
                    if (o.has(x, y) && p.there[y][x]) {
                        p.there[y][x] = false;
                        s.slugs++;
                    }
                }
            }
        }
        if (any && p.offset > s.settings[4]) {
            p.spoiled = true;
        }
    }

    int emptyPress() {
        save();
        int lost = s.press.size();
        s.press.clear();
        s.bad += lost;
        return lost;
    }

    // ---- cells

    private boolean carrier(int x, int y) {
        return y == 0 && s.carrier != 1 || y == s.rows - 1 && s.carrier != 0;
    }

    private boolean part(int x, int y) {
        return s.marks[y][x] == 1 && !carrier(x, y);
    }

    private boolean link(int x, int y) {
        return s.marks[y][x] == 2 && !carrier(x, y);
    }

    private boolean neither(int x, int y) {
        return s.marks[y][x] == 0 && !carrier(x, y);
    }

    private boolean punched(int x, int y) {
        for (Op o : s.ops) {
            if (!o.bend && o.has(x, y)) {
                return true;
            }
        }
        return false;
    }

    private boolean reaches(int x, int y, boolean[][] seen) {
        if (x < 0 || y < 0 || x >= s.columns || y >= s.rows || seen[y][x] || neither(x, y)) {
            return false;
        }
        seen[y][x] = true;
        return carrier(x, y) || reaches(x - 1, y, seen) || reaches(x + 1, y, seen)
                || reaches(x, y - 1, seen) || reaches(x, y + 1, seen);
    }

    long cellSet(int what) {
        argument(what >= 0 && what <= 5);
        long set = 0;
        for (int y = 0; y < s.rows; y++) {
            for (int x = 0; x < s.columns; x++) {
                boolean[] in = {
                    part(x, y), link(x, y), carrier(x, y), punched(x, y), neither(x, y) && !punched(x, y),
                    part(x, y) && !reaches(x, y, new boolean[6][10]),
                };
                set += in[what] ? 1L << y * s.columns + x : 0;
            }
        }
        return set;
    }

    int dieFault() {
        boolean[] fault = new boolean[7];
        fault[1] = cellSet(0) == 0;
        for (int y = 0; y < s.rows; y++) {
            for (int x = 0; x < s.columns; x++) {
                fault[2] |= punched(x, y) && (part(x, y) || link(x, y));
                fault[3] |= punched(x, y) && carrier(x, y);
                for (Op o : bendsOfDie()) {
                    fault[4] |= o.has(x, y) && !part(x, y);
                }
                fault[5] |= !part(x, y) && !link(x, y) && !carrier(x, y) && !punched(x, y);
                fault[6] |= part(x, y) && !reaches(x, y, new boolean[6][10]);
            }
        }
        for (int f = 1; f <= 6; f++) {
            if (fault[f]) {
                return f;
            }
        }
        return 0;
    }

    // ---- plans

    private boolean touch(Op a, Op b) {
        for (int y = 0; y < s.rows; y++) {
            for (int x = 0; x < s.columns; x++) {
                if (a.has(x, y) && (b.has(x, y) || b.has(x - 1, y) || b.has(x + 1, y)
                        || b.has(x, y - 1) || b.has(x, y + 1))) {
                    return true;
                }
            }
        }
        return false;
    }

    private boolean[][] touches() {
        int n = s.ops.size();
        boolean[][] t = new boolean[n][n];
        for (int a = 0; a < n; a++) {
            for (int b = 0; b < n; b++) {
                t[a][b] = a != b && touch(s.ops.get(a), s.ops.get(b));
            }
        }
        return t;
    }

    private int[] plan() {
        int[] plan = new int[s.ops.size()];
        for (int o = 0; o < plan.length; o++) {
            plan[o] = s.ops.get(o).station;
        }
        return plan;
    }

    private static int stations(int[] plan) {
        int most = -1;
        for (int p : plan) {
            most = Math.max(most, p);
        }
        return most + 1;
    }

    private int greatestForce(int[] plan) {
        int[] forces = new int[8];
        int most = 0;
        for (int o = 0; o < plan.length; o++) {
            forces[plan[o]] += s.ops.get(o).force();
            most = Math.max(most, forces[plan[o]]);
        }
        return most;
    }

    private int planFault(int[] plan, boolean[][] t, int limit) {
        for (int p : plan) {
            if (p == -1) {
                return 1;
            }
        }
        if (greatestForce(plan) > limit) {
            return 2;
        }
        for (int a = 0; a < plan.length; a++) {
            for (int b = 0; b < plan.length; b++) {
                if (t[a][b] && plan[a] == plan[b]) {
                    return 3;
                }
            }
        }
        for (int a = 0; a < plan.length; a++) {
            for (int b = 0; b < plan.length; b++) {
                boolean bendAndPunch = s.ops.get(a).bend && !s.ops.get(b).bend;
                if (t[a][b] && bendAndPunch && !(plan[a] >= plan[b] + 1 + s.settings[1])) {
                    return 4;
                }
            }
        }
        return 0;
    }

    int planFault() {
        return planFault(plan(), touches(), s.settings[0]);
    }

    /** Counts up like a number whose first digit is the station of operation 0; false behind the last plan. */
    private static boolean next(int[] plan, int stations) {
        for (int o = plan.length - 1; o >= 0; o--) {
            if (plan[o] + 1 < stations) {
                plan[o]++;
                return true;
            }
            plan[o] = 0;
        }
        return false;
    }

    private int[] best() {
        if (s.ops.isEmpty()) {
            return new int[0];
        }
        boolean[][] t = touches();
        for (int stations = 1; stations <= 8; stations++) {
            int[] plan = new int[s.ops.size()];
            do {
                if (planFault(plan, t, s.settings[0]) == 0) {
                    return plan;
                }
            } while (next(plan, stations));
        }
        return null;
    }

    int planned(int operation) {
        if (operation != -1) {
            index(operation);
        }
        int[] best = best();
        if (best == null) {
            return -1;
        }
        return operation == -1 ? stations(best) : best[operation];
    }

    int leastLimit() {
        if (s.ops.isEmpty()) {
            return 1;
        }
        boolean[][] t = touches();
        int least = Integer.MAX_VALUE;
        int[] plan = new int[s.ops.size()];
        do {
            if (planFault(plan, t, 999) == 0) {
                least = Math.min(least, greatestForce(plan));
            }
        } while (next(plan, 8));
        return least == Integer.MAX_VALUE ? -1 : least;
    }

    // ---- values

    int operation(int operation, int what) {
        index(operation);
        argument(what >= 0 && what <= 7);
        Op o = s.ops.get(operation);
        int touching = 0;
        for (int i = 0; i < s.ops.size(); i++) {
            if (touches()[operation][i]) {
                touching += 1 << i;
            }
        }
        return new int[] {o.bend ? 1 : 0, o.x, o.y, o.w, o.h, o.force(), o.station, touching}[what];
    }

    private Pitch at(int station) {
        for (Pitch p : s.press) {
            if (p.station == station) {
                return p;
            }
        }
        return null;
    }

    int station(int station, int what) {
        argument(station >= 0 && station <= 7 && what >= 0 && what <= 3);
        int set = 0;
        int force = 0;
        for (int o = 0; o < s.ops.size(); o++) {
            if (s.ops.get(o).station == station) {
                set += 1 << o;
                force += s.ops.get(o).force();
            }
        }
        return new int[] {set, force, s.pilots[station] ? 1 : 0, at(station) != null ? 1 : 0}[what];
    }

    int pitch(int station, int what) {
        argument(station >= 0 && station <= 7 && what >= 0 && what <= 3);
        Pitch p = at(station);
        if (p == null) {
            return -1;
        }
        int bends = 0;
        for (Op o : p.bends) {
            bends += 1 << s.ops.indexOf(o);
        }
        return new int[] {bends, p.offset, p.spoiled ? 1 : 0, Long.bitCount(left(station))}[what];
    }

    long left(int station) {
        argument(station >= 0 && station <= 7);
        Pitch p = at(station);
        long set = 0;
        for (int y = 0; p != null && y < s.rows; y++) {
            for (int x = 0; x < s.columns; x++) {
                set += p.there[y][x] ? 1L << y * s.columns + x : 0;
            }
        }
        return set;
    }

    int whole(int what) {
        argument(what >= 0 && what <= 16);
        int[] t = s.settings;
        return new int[] {s.columns, s.rows, s.carrier, t[0], t[1], t[2], t[3], t[4], s.ops.size(),
            stations(plan()), s.press.size(), s.strokes, s.good, s.bad, s.slugs, pilots(), text.length()}[what];
    }

    int fitsTwice() {
        int parts = 0;
        for (int y = 0; y < s.rows; y++) {
            for (int x = 0; x < s.columns; x++) {
                if (!part(x, y)) {
                    continue;
                }
                parts++;
                int tx = s.columns - 1 - x;
                int ty = s.rows - 1 - y;
                boolean near = part(tx, ty) || tx > 0 && part(tx - 1, ty) || ty > 0 && part(tx, ty - 1)
                        || tx + 1 < s.columns && part(tx + 1, ty) || ty + 1 < s.rows && part(tx, ty + 1);
                if (near || carrier(tx, ty)) {
                    return 0;
                }
            }
        }
        return parts > 0 ? 1 : 0;
    }

    int scrap(boolean twice) {
        int cells = s.columns * s.rows;
        int parts = Long.bitCount(cellSet(0)) * (twice && fitsTwice() == 1 ? 2 : 1);
        return 1000 * (cells - parts) / cells;
    }

    int strokesToGood() {
        State now = s;
        s = s.copy();
        int strokes = -1;
        for (int i = 1; i <= 60 && strokes == -1; i++) {
            int good = s.good;
            makeStroke();
            if (s.good > good) {
                strokes = i;
            }
        }
        s = now;
        return strokes;
    }

    // ---- texts

    int type(int value) {
        argument(value >= 0 && value <= 127);
        state(text.length() < 150);
        text += (char) value;
        return text.length();
    }

    int clearCommands() {
        int length = text.length();
        text = "";
        return length;
    }

    private static final List<String> WORDS =
            Arrays.asList("pitch", "part", "link", "punch", "bend", "place", "plan", "pilot", "stroke");
    private static final int[] NUMBERS = {2, 4, 4, 4, 3, 2, 0, 1, 1};

    /** Byte by byte: what may stand here depends on what stood before. */
    private int fault(List<int[]> commands) {
        String word = "";
        int wordStart = 0;
        int[] command = null;
        int numbers = 0;
        int digits = 0;
        boolean space = false;
        for (int i = 0; i <= text.length(); i++) {
            char c = i < text.length() ? text.charAt(i) : (char) 200;
            if (command == null && c >= 'a' && c <= 'z') {
                wordStart = word.isEmpty() ? i : wordStart;
                word += c;
                continue;
            }
            if (command == null && word.isEmpty()) {
                if (c == 200) {
                    return -1;
                }
                if (c != ' ') {
                    return i;
                }
                continue;
            }
            if (command == null) {
                int w = WORDS.indexOf(word);
                if (w == -1) {
                    return wordStart;
                }
                command = new int[] {w, 0, 0, 0, 0};
                numbers = 0;
                digits = 0;
                space = false;
            }
            if (c == ' ') {
                space = true;
                digits = 0;
            } else if (c >= '0' && c <= '9') {
                if (digits == 0) {
                    if (!space || numbers == NUMBERS[command[0]]) {
                        return i;
                    }
                    numbers++;
                } else if (digits == 3) {
                    return i;
                }
                digits++;
                space = false;
                command[numbers] = command[numbers] * 10 + c - '0';
            } else if (c == ';' && numbers == NUMBERS[command[0]]) {
                commands.add(command);
                command = null;
                word = "";
            } else {
                return i;
            }
        }
        throw new AssertionError();
    }

    int runCommands() {
        List<int[]> commands = new ArrayList<>();
        int fault = fault(commands);
        if (fault != -1) {
            return -10 - fault;
        }
        save();
        running = true;
        int done = 0;
        try {
            for (int[] c : commands) {
                carryOut(c);
                done++;
            }
        } catch (IllegalArgumentException | IllegalStateException | IndexOutOfBoundsException e) {
            return done;
        } finally {
            running = false;
        }
        return done;
    }

    private void carryOut(int[] c) {
        switch (WORDS.get(c[0])) {
            case "pitch" -> begin(c[1], c[2]);
            case "part" -> mark(c[1], c[2], c[3], c[4], 1);
            case "link" -> mark(c[1], c[2], c[3], c[4], 2);
            case "punch" -> addPunch(c[1], c[2], c[3], c[4]);
            case "bend" -> addBend(c[1], c[2], c[3]);
            case "place" -> setStation(c[1], c[2]);
            case "plan" -> usePlan();
            case "pilot" -> setPilot(c[1], true);
            default -> {
                argument(c[1] >= 1 && c[1] <= 50);
                for (int i = 0; i < c[1]; i++) {
                    stroke();
                }
            }
        }
    }

    int undo() {
        state(!stack.isEmpty());
        s = stack.removeLast();
        return stack.size();
    }

    long digest() {
        List<Long> values = new ArrayList<>();
        values.add((long) stack.size());
        for (int what = 0; what <= 16; what++) {
            values.add((long) whole(what));
        }
        for (int what = 0; what <= 5; what++) {
            values.add(cellSet(what));
        }
        for (int o = 0; o < s.ops.size(); o++) {
            for (int what = 0; what <= 7; what++) {
                values.add((long) operation(o, what));
            }
        }
        for (int st = 0; st < 8; st++) {
            for (int what = 0; what <= 3; what++) {
                values.add((long) station(st, what));
            }
            for (int what = 0; what <= 3; what++) {
                values.add((long) pitch(st, what));
            }
            values.add(left(st));
        }
        values.add((long) dieFault());
        values.add((long) planFault());
        values.add((long) planned(-1));
        values.add((long) fitsTwice());
        values.add((long) scrap(false));
        values.add((long) scrap(true));
        long h = 12958;
        for (long v : values) {
            h = 31 * h + v;
        }
        return h;
    }
}
