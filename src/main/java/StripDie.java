/** A strip die with its plan and its press, as ../shared/DOC.md promises it. */
public final class StripDie {
    public static final int NONE = -1;

    private static final int STATIONS = 8;
    // A stroke moves a pitch past the last station before it is cut off.
    private static final int PLACES = STATIONS + 1;
    private static final int MOST_CELLS = 60;
    private static final int MOST_OPERATIONS = 6;
    private static final int MOST_SAVED = 4;
    private static final int MOST_BYTES = 150;
    private static final int MOST_LIMIT = 999;
    private static final int MOST_STROKES_AHEAD = 60;
    private static final int MOST_STROKES_TYPED = 50;

    private static final int LIMIT = 0;
    private static final int GAP = 1;
    private static final int DRIFT = 2;
    private static final int CATCH = 3;
    private static final int TOLERANCE = 4;

    private static final int KIND = 0;
    private static final int FIRST_COLUMN = 1;
    private static final int FIRST_ROW = 2;
    private static final int WIDTH = 3;
    private static final int HEIGHT = 4;
    private static final int FORCE = 5;
    private static final int PLACE = 6;
    private static final int FACTS = 7;
    private static final int TOUCHING = 7;

    private static final int PUNCH = 0;
    private static final int BEND = 1;

    private static final int WORD_PITCH = 0;
    private static final int WORD_PART = 1;
    private static final int WORD_LINK = 2;
    private static final int WORD_PUNCH = 3;
    private static final int WORD_BEND = 4;
    private static final int WORD_PLACE = 5;
    private static final int WORD_PLAN = 6;
    private static final int WORD_PILOT = 7;
    private static final int WORD_STROKE = 8;
    private static final int WORDS = 9;
    private static final int MOST_NUMBERS = 4;
    private static final int MOST_DIGITS = 3;

    private final State now;
    // The saved states go round: the oldest one's object is used again, so that a save makes none.
    private final State[] saved;
    private int oldestSaved;
    private int savedStates;
    private final Press trial;
    private final Planner planner;
    private final CommandText text;

    public StripDie() {
        now = new State();
        saved = new State[MOST_SAVED];
        for (int i = 0; i < saved.length; i++) {
            saved[i] = new State();
        }
        trial = new Press();
        planner = new Planner();
        text = new CommandText();
    }

    // ---- the die

    public int begin(int columns, int rows) throws IllegalArgumentException {
        if (!isPitchSize(columns, rows)) {
            throw new IllegalArgumentException("columns are 2 to 10, rows 2 to 6");
        }
        save();
        int before = now.die.operations;
        startOver(columns, rows);
        return before;
    }

    public int mark(int x, int y, int width, int height, int mark) throws IllegalArgumentException {
        if (!now.die.holds(x, y, width, height) || mark < 0 || mark > 2) {
            throw new IllegalArgumentException("no such rectangle or mark");
        }
        save();
        return now.die.markCells(now.die.rectangle(x, y, width, height), mark);
    }

    public int setCarrier(int carrier) throws IllegalArgumentException {
        if (carrier < 0 || carrier > 2) {
            throw new IllegalArgumentException("carrier is 0 to 2");
        }
        save();
        int before = now.die.carrier;
        now.die.carrier = carrier;
        return before;
    }

    public int set(int what, int value) throws IllegalArgumentException {
        if (!isSettingValue(what, value)) {
            throw new IllegalArgumentException("no such setting or value");
        }
        save();
        int before = now.die.setting(what);
        now.die.changeSetting(what, value);
        return before;
    }

    public int addPunch(int x, int y, int width, int height)
            throws IllegalArgumentException, IllegalStateException {
        if (!now.die.holds(x, y, width, height)) {
            throw new IllegalArgumentException("no such rectangle");
        }
        if (now.die.isFull()) {
            throw new IllegalStateException("there are 6 operations");
        }
        save();
        return now.die.append(PUNCH, x, y, width, height);
    }

    public int addBend(int x, int y, int length) throws IllegalArgumentException, IllegalStateException {
        if (!now.die.holds(x, y, length, 1)) {
            throw new IllegalArgumentException("no such piece of a row");
        }
        if (now.die.isFull()) {
            throw new IllegalStateException("there are 6 operations");
        }
        save();
        return now.die.append(BEND, x, y, length, 1);
    }

    public int dropOperation(int operation) throws IndexOutOfBoundsException {
        if (!now.die.hasOperation(operation)) {
            throw new IndexOutOfBoundsException("no such operation");
        }
        save();
        now.die.remove(operation);
        now.press.forgetBend(operation);
        return now.die.operations;
    }

    // ---- plans and press

    public int setStation(int operation, int station)
            throws IndexOutOfBoundsException, IllegalArgumentException {
        if (!now.die.hasOperation(operation)) {
            throw new IndexOutOfBoundsException("no such operation");
        }
        if (station != NONE && !isStation(station)) {
            throw new IllegalArgumentException("station is 0 to 7, or NONE");
        }
        save();
        int before = now.die.fact(operation, PLACE);
        now.die.changeFact(operation, PLACE, station);
        return before;
    }

    public int usePlan() throws IllegalStateException {
        int stations = planner.findBest(now.die);
        if (stations == NONE) {
            throw new IllegalStateException("there is no best plan");
        }
        save();
        planner.putInto(now.die);
        return stations;
    }

    public int setPilot(int station, boolean pilot) throws IllegalArgumentException {
        if (!isStation(station)) {
            throw new IllegalArgumentException("station is 0 to 7");
        }
        save();
        now.die.changePilot(station, pilot);
        return Integer.bitCount(now.die.pilots);
    }

    public int stroke() {
        save();
        return now.press.feed(now.die);
    }

    public int emptyPress() {
        save();
        int lost = now.press.clearPitches();
        now.press.badParts += lost;
        return lost;
    }

    // ---- values

    public long cellSet(int what) throws IllegalArgumentException {
        switch (what) {
            case 0:
                return now.die.partCells();
            case 1:
                return now.die.linkCells();
            case 2:
                return now.die.carrierCells();
            case 3:
                return now.die.cellsOfKind(PUNCH);
            case 4:
                return now.die.forgottenCells();
            case 5:
                return now.die.looseCells();
            default:
                throw new IllegalArgumentException("what is 0 to 5");
        }
    }

    public int operation(int operation, int what) throws IndexOutOfBoundsException, IllegalArgumentException {
        if (!now.die.hasOperation(operation)) {
            throw new IndexOutOfBoundsException("no such operation");
        }
        if (what < 0 || what > TOUCHING) {
            throw new IllegalArgumentException("what is 0 to 7");
        }
        return what == TOUCHING ? now.die.touching(operation) : now.die.fact(operation, what);
    }

    public int station(int station, int what) throws IllegalArgumentException {
        if (!isStation(station)) {
            throw new IllegalArgumentException("station is 0 to 7");
        }
        switch (what) {
            case 0:
                return now.die.operationsAt(station);
            case 1:
                return now.die.forceAt(station);
            case 2:
                return now.die.hasPilot(station) ? 1 : 0;
            case 3:
                return now.press.hasPitch(station) ? 1 : 0;
            default:
                throw new IllegalArgumentException("what is 0 to 3");
        }
    }

    public int pitch(int station, int what) throws IllegalArgumentException {
        if (!isStation(station) || what < 0 || what > 3) {
            throw new IllegalArgumentException("station is 0 to 7, what is 0 to 3");
        }
        return now.press.hasPitch(station) ? now.press.valueOf(station, what) : NONE;
    }

    public long left(int station) throws IllegalArgumentException {
        if (!isStation(station)) {
            throw new IllegalArgumentException("station is 0 to 7");
        }
        return now.press.hasPitch(station) ? now.press.cellsAt(station) : 0L;
    }

    public int whole(int what) throws IllegalArgumentException {
        if (what < 0 || what > 16) {
            throw new IllegalArgumentException("what is 0 to 16");
        }
        if (what < 10) {
            return now.die.wholeValue(what);
        }
        if (what == 15) {
            return Integer.bitCount(now.die.pilots);
        }
        return what == 16 ? text.length : now.press.wholeValue(what);
    }

    public int dieFault() {
        return now.die.faultOfDie();
    }

    public int planFault() {
        return now.die.faultOfPlan();
    }

    // ---- what if, which changes nothing

    public int planned(int operation) throws IndexOutOfBoundsException {
        if (operation != NONE && !now.die.hasOperation(operation)) {
            throw new IndexOutOfBoundsException("no such operation");
        }
        int stations = planner.findBest(now.die);
        if (stations == NONE || operation == NONE) {
            return stations;
        }
        return planner.chosenFor(operation);
    }

    public int leastLimit() {
        return planner.findLeastLimit(now.die);
    }

    public int fitsTwice() {
        return now.die.hasPlaceForSecond() ? 1 : 0;
    }

    public int scrap(boolean twice) {
        int cells = now.die.columns * now.die.rows;
        if (cells < 1) {
            return 0;
        }
        int used = Long.bitCount(now.die.partCells());
        if (twice && now.die.hasPlaceForSecond()) {
            used = 2 * used;
        }
        return 1000 * (cells - used) / cells;
    }

    public int strokesToGood() {
        trial.copyFrom(now.press);
        for (int strokes = 1; strokes <= MOST_STROKES_AHEAD; strokes++) {
            int before = trial.goodParts;
            trial.feed(now.die);
            if (trial.goodParts > before) {
                return strokes;
            }
        }
        return NONE;
    }

    // ---- command text, undo and checksum

    public int type(int value) throws IllegalArgumentException, IllegalStateException {
        if (value < 0 || value > 127) {
            throw new IllegalArgumentException("value is 0 to 127");
        }
        if (text.length >= MOST_BYTES) {
            throw new IllegalStateException("the text has 150 bytes");
        }
        text.append(value);
        return text.length;
    }

    public int clearCommands() {
        int before = text.length;
        text.length = 0;
        return before;
    }

    public int runCommands() {
        int fault = text.findFault();
        if (fault != NONE) {
            return -10 - fault;
        }
        save();
        text.at = 0;
        for (int done = 0; done < MOST_BYTES; done++) {
            if (text.isAtEnd() || text.readCommand() != NONE || !carryOut()) {
                return done;
            }
        }
        return MOST_BYTES;
    }

    public int undo() throws IllegalStateException {
        if (savedStates < 1) {
            throw new IllegalStateException("the undo stack is empty");
        }
        savedStates--;
        State latest = savedState(savedStates);
        if (latest != null) {
            now.copyFrom(latest);
        }
        return savedStates;
    }

    public long digest() {
        long h = 31L * 12958L + savedStates;
        for (int what = 0; what <= 16; what++) {
            h = 31L * h + whole(what);
        }
        for (int what = 0; what <= 5; what++) {
            h = 31L * h + cellSet(what);
        }
        for (int o = 0; o < now.die.operations; o++) {
            for (int what = 0; what <= TOUCHING; what++) {
                h = 31L * h + operation(o, what);
            }
        }
        for (int s = 0; s < STATIONS; s++) {
            h = withStation(h, s);
        }
        h = 31L * h + dieFault();
        h = 31L * h + planFault();
        h = 31L * h + planned(NONE);
        h = 31L * h + fitsTwice();
        h = 31L * h + scrap(false);
        return 31L * h + scrap(true);
    }

    private long withStation(long hash, int s) {
        long h = hash;
        for (int what = 0; what <= 3; what++) {
            h = 31L * h + station(s, what);
        }
        for (int what = 0; what <= 3; what++) {
            h = 31L * h + pitch(s, what);
        }
        return 31L * h + left(s);
    }

    private static boolean isPitchSize(int columns, int rows) {
        return columns >= 2 && columns <= 10 && rows >= 2 && rows <= 6;
    }

    private static boolean isStation(int station) {
        return station >= 0 && station < STATIONS;
    }

    private static boolean isSettingValue(int what, int value) {
        switch (what) {
            case LIMIT:
                return value >= 1 && value <= MOST_LIMIT;
            case GAP:
                return value >= 0 && value <= 3;
            case DRIFT:
                return value >= 0 && value <= 9;
            case CATCH:
            case TOLERANCE:
                return value >= 0 && value <= 50;
            default:
                return false;
        }
    }

    private void startOver(int columns, int rows) {
        now.die.startOver(columns, rows);
        now.press.startOver();
    }

    private State savedState(int age) {
        int index = (oldestSaved + age) % MOST_SAVED;
        return index >= 0 && index < saved.length ? saved[index] : null;
    }

    private void save() {
        if (savedStates >= MOST_SAVED) {
            oldestSaved = (oldestSaved + 1) % MOST_SAVED;
            savedStates--;
        }
        State free = savedState(savedStates);
        if (free != null) {
            free.copyFrom(now);
            savedStates++;
        }
    }

    /** Carries out the command that was read; false, and nothing done, if its method would throw. */
    private boolean carryOut() {
        int a = text.number(0);
        int b = text.number(1);
        int c = text.number(2);
        int d = text.number(3);
        switch (text.word) {
            case WORD_PITCH:
                return carryOutPitch(a, b);
            case WORD_PART:
                return carryOutMark(a, b, c, d, 1);
            case WORD_LINK:
                return carryOutMark(a, b, c, d, 2);
            case WORD_PUNCH:
                return carryOutAdd(PUNCH, a, b, c, d);
            case WORD_BEND:
                return carryOutAdd(BEND, a, b, c, 1);
            case WORD_PLACE:
                return carryOutPlace(a, b);
            case WORD_PLAN:
                return carryOutPlan(planner.findBest(now.die));
            case WORD_PILOT:
                return carryOutPilot(a);
            case WORD_STROKE:
                return carryOutStrokes(a);
            default:
                return false;
        }
    }

    private boolean carryOutPitch(int columns, int rows) {
        if (!isPitchSize(columns, rows)) {
            return false;
        }
        startOver(columns, rows);
        return true;
    }

    private boolean carryOutMark(int x, int y, int width, int height, int mark) {
        if (!now.die.holds(x, y, width, height)) {
            return false;
        }
        now.die.markCells(now.die.rectangle(x, y, width, height), mark);
        return true;
    }

    private boolean carryOutAdd(int kind, int x, int y, int width, int height) {
        if (!now.die.holds(x, y, width, height) || now.die.isFull()) {
            return false;
        }
        now.die.append(kind, x, y, width, height);
        return true;
    }

    private boolean carryOutPlace(int operation, int station) {
        if (!now.die.hasOperation(operation) || !isStation(station)) {
            return false;
        }
        now.die.changeFact(operation, PLACE, station);
        return true;
    }

    private boolean carryOutPlan(int stations) {
        if (stations == NONE) {
            return false;
        }
        planner.putInto(now.die);
        return true;
    }

    private boolean carryOutPilot(int station) {
        if (!isStation(station)) {
            return false;
        }
        now.die.changePilot(station, true);
        return true;
    }

    private boolean carryOutStrokes(int strokes) {
        if (strokes < 1 || strokes > MOST_STROKES_TYPED) {
            return false;
        }
        for (int i = 0; i < strokes; i++) {
            now.press.feed(now.die);
        }
        return true;
    }

    private static boolean isIn(int set, int index) {
        return ((set >> index) & 1) != 0;
    }

    private static void copyInts(int[] from, int[] to) {
        for (int i = 0; i < from.length && i < to.length; i++) {
            to[i] = from[i];
        }
    }

    private static void copyLongs(long[] from, long[] to) {
        for (int i = 0; i < from.length && i < to.length; i++) {
            to[i] = from[i];
        }
    }

    /** What undo brings back. */
    private static final class State {
        final Die die = new Die();
        final Press press = new Press();

        void copyFrom(State other) {
            die.copyFrom(other.die);
            press.copyFrom(other.press);
        }
    }

    /** The pitch with its marks, the operations with their stations, the pilots and the settings. */
    private static final class Die {
        int columns = 6;
        int rows = 4;
        int carrier;
        // Marks of cells in the carrier are kept here too: they tell again without it.
        long partMarks;
        long linkMarks;
        int operations;
        int pilots;
        final int[] settings = {30, 0, 1, 5, 2};
        final int[] facts = new int[MOST_OPERATIONS * FACTS];
        final long[] cells = new long[MOST_OPERATIONS];

        void copyFrom(Die other) {
            columns = other.columns;
            rows = other.rows;
            carrier = other.carrier;
            partMarks = other.partMarks;
            linkMarks = other.linkMarks;
            operations = other.operations;
            pilots = other.pilots;
            copyInts(other.settings, settings);
            copyInts(other.facts, facts);
            copyLongs(other.cells, cells);
        }

        void startOver(int newColumns, int newRows) {
            columns = newColumns;
            rows = newRows;
            partMarks = 0L;
            linkMarks = 0L;
            operations = 0;
            pilots = 0;
        }

        int setting(int what) {
            return what >= 0 && what < settings.length ? settings[what] : 0;
        }

        void changeSetting(int what, int value) {
            if (what >= 0 && what < settings.length) {
                settings[what] = value;
            }
        }

        boolean hasPilot(int station) {
            return isIn(pilots, station);
        }

        void changePilot(int station, boolean pilot) {
            pilots = pilot ? pilots | (1 << station) : pilots & ~(1 << station);
        }

        int wholeValue(int what) {
            switch (what) {
                case 0:
                    return columns;
                case 1:
                    return rows;
                case 2:
                    return carrier;
                case 8:
                    return operations;
                case 9:
                    return planStations();
                default:
                    return setting(what - 3);
            }
        }

        // ---- sets of cells

        // Subtractions, since x + width may wrap round.
        boolean holds(int x, int y, int width, int height) {
            return width >= 1 && width <= columns && height >= 1 && height <= rows
                    && x >= 0 && x <= columns - width && y >= 0 && y <= rows - height;
        }

        long rectangle(int x, int y, int width, int height) {
            long row = ((1L << width) - 1L) << x;
            long set = 0L;
            for (int i = 0; i < height && i < rows; i++) {
                set |= row << ((y + i) * columns);
            }
            return set;
        }

        long allCells() {
            return (1L << (columns * rows)) - 1L;
        }

        int markCells(long set, int mark) {
            long newParts = mark == 1 ? partMarks | set : partMarks & ~set;
            long newLinks = mark == 2 ? linkMarks | set : linkMarks & ~set;
            long changed = (newParts ^ partMarks) | (newLinks ^ linkMarks);
            partMarks = newParts;
            linkMarks = newLinks;
            return Long.bitCount(changed);
        }

        long carrierCells() {
            long first = (1L << columns) - 1L;
            long last = first << ((rows - 1) * columns);
            if (carrier == 2) {
                return first | last;
            }
            return carrier == 0 ? first : last;
        }

        long partCells() {
            return partMarks & ~carrierCells();
        }

        long linkCells() {
            return linkMarks & ~carrierCells();
        }

        /** The cells that have to go: neither of the part, nor links, nor in the carrier. */
        long wasteCells() {
            return allCells() & ~(partMarks | linkMarks | carrierCells());
        }

        long cellsOfKind(int kind) {
            long set = 0L;
            for (int o = 0; o < operations; o++) {
                if (fact(o, KIND) == kind) {
                    set |= cellsOf(o);
                }
            }
            return set;
        }

        long forgottenCells() {
            return wasteCells() & ~cellsOfKind(PUNCH);
        }

        long looseCells() {
            long carried = carrierCells();
            long holding = partMarks | linkMarks | carried;
            for (int step = 0; step < MOST_CELLS; step++) {
                long more = carried | (neighbors(carried) & holding);
                if (more == carried) {
                    break;
                }
                carried = more;
            }
            return partCells() & ~carried;
        }

        long neighbors(long set) {
            long firsts = rectangle(0, 0, 1, rows);
            long lasts = firsts << (columns - 1);
            long beside = ((set & ~lasts) << 1) | ((set & ~firsts) >>> 1);
            long above = (set << columns) | (set >>> columns);
            return (beside | above) & allCells();
        }

        boolean hasPlaceForSecond() {
            long part = partCells();
            long second = halfTurned(part);
            return part != 0L && (second & (carrierCells() | part | neighbors(part))) == 0L;
        }

        long halfTurned(long set) {
            int last = columns * rows - 1;
            long turned = 0L;
            for (int i = 0; i <= last; i++) {
                turned |= ((set >>> i) & 1L) << (last - i);
            }
            return turned;
        }

        int faultOfDie() {
            long part = partCells();
            long punched = cellsOfKind(PUNCH);
            if (part == 0L) {
                return 1;
            }
            if ((punched & (part | linkCells())) != 0L) {
                return 2;
            }
            if ((punched & carrierCells()) != 0L) {
                return 3;
            }
            if ((cellsOfKind(BEND) & ~part) != 0L) {
                return 4;
            }
            if (forgottenCells() != 0L) {
                return 5;
            }
            return looseCells() != 0L ? 6 : 0;
        }

        // ---- operations

        boolean isFull() {
            return operations >= MOST_OPERATIONS;
        }

        boolean hasOperation(int operation) {
            return operation >= 0 && operation < operations;
        }

        int fact(int operation, int what) {
            int index = operation * FACTS + what;
            return index >= 0 && index < facts.length ? facts[index] : 0;
        }

        void changeFact(int operation, int what, int value) {
            int index = operation * FACTS + what;
            if (index >= 0 && index < facts.length) {
                facts[index] = value;
            }
        }

        long cellsOf(int operation) {
            return operation >= 0 && operation < cells.length ? cells[operation] : 0L;
        }

        void changeCells(int operation, long set) {
            if (operation >= 0 && operation < cells.length) {
                cells[operation] = set;
            }
        }

        int append(int kind, int x, int y, int width, int height) {
            int added = operations;
            changeFact(added, KIND, kind);
            changeFact(added, FIRST_COLUMN, x);
            changeFact(added, FIRST_ROW, y);
            changeFact(added, WIDTH, width);
            changeFact(added, HEIGHT, height);
            changeFact(added, FORCE, kind == PUNCH ? 2 * (width + height) : width);
            changeFact(added, PLACE, NONE);
            changeCells(added, rectangle(x, y, width, height));
            operations++;
            return added;
        }

        void remove(int operation) {
            for (int o = operation; o < operations - 1; o++) {
                for (int what = 0; what < FACTS; what++) {
                    changeFact(o, what, fact(o + 1, what));
                }
                changeCells(o, cellsOf(o + 1));
            }
            operations--;
        }

        int touching(int operation) {
            long reach = cellsOf(operation) | neighbors(cellsOf(operation));
            int set = 0;
            for (int o = 0; o < operations; o++) {
                if (o != operation && (reach & cellsOf(o)) != 0L) {
                    set |= 1 << o;
                }
            }
            return set;
        }

        // ---- the plan

        int planStations() {
            int greatest = NONE;
            for (int o = 0; o < operations; o++) {
                greatest = Math.max(greatest, fact(o, PLACE));
            }
            return greatest + 1;
        }

        int operationsAt(int station) {
            int set = 0;
            for (int o = 0; o < operations; o++) {
                if (fact(o, PLACE) == station) {
                    set |= 1 << o;
                }
            }
            return set;
        }

        int forceAt(int station) {
            int force = 0;
            for (int o = 0; o < operations; o++) {
                if (fact(o, PLACE) == station) {
                    force += fact(o, FORCE);
                }
            }
            return force;
        }

        int faultOfPlan() {
            if (operationsAt(NONE) != 0) {
                return 1;
            }
            for (int s = 0; s < STATIONS; s++) {
                if (forceAt(s) > setting(LIMIT)) {
                    return 2;
                }
            }
            for (int o = 0; o < operations; o++) {
                if ((touching(o) & operationsAt(fact(o, PLACE))) != 0) {
                    return 3;
                }
            }
            for (int o = 0; o < operations; o++) {
                if (fact(o, KIND) == BEND && isTooEarly(o)) {
                    return 4;
                }
            }
            return 0;
        }

        private boolean isTooEarly(int bend) {
            int touching = touching(bend);
            for (int o = 0; o < operations; o++) {
                boolean touchedPunch = isIn(touching, o) && fact(o, KIND) == PUNCH;
                if (touchedPunch && fact(bend, PLACE) < fact(o, PLACE) + 1 + setting(GAP)) {
                    return true;
                }
            }
            return false;
        }
    }

    /** The pitches in the press by their stations, and what has been counted. */
    private static final class Press {
        // Bit s of pitches and of spoiled tells of the pitch at station s.
        int pitches;
        int spoiled;
        final long[] cells = new long[PLACES];
        final int[] bends = new int[PLACES];
        final int[] offsets = new int[PLACES];
        int strokes;
        int goodParts;
        int badParts;
        int slugs;

        void copyFrom(Press other) {
            pitches = other.pitches;
            spoiled = other.spoiled;
            copyLongs(other.cells, cells);
            copyInts(other.bends, bends);
            copyInts(other.offsets, offsets);
            strokes = other.strokes;
            goodParts = other.goodParts;
            badParts = other.badParts;
            slugs = other.slugs;
        }

        void startOver() {
            clearPitches();
            strokes = 0;
            goodParts = 0;
            badParts = 0;
            slugs = 0;
        }

        int clearPitches() {
            int lost = Integer.bitCount(pitches);
            pitches = 0;
            spoiled = 0;
            return lost;
        }

        boolean hasPitch(int place) {
            return isIn(pitches, place);
        }

        long cellsAt(int place) {
            return place >= 0 && place < cells.length ? cells[place] : 0L;
        }

        int bendsAt(int place) {
            return place >= 0 && place < bends.length ? bends[place] : 0;
        }

        int offsetAt(int place) {
            return place >= 0 && place < offsets.length ? offsets[place] : 0;
        }

        void changePitch(int place, long newCells, int newBends, int newOffset) {
            if (place >= 0 && place < cells.length && place < bends.length && place < offsets.length) {
                cells[place] = newCells;
                bends[place] = newBends;
                offsets[place] = newOffset;
            }
        }

        int valueOf(int place, int what) {
            switch (what) {
                case 0:
                    return bendsAt(place);
                case 1:
                    return offsetAt(place);
                case 2:
                    return isIn(spoiled, place) ? 1 : 0;
                default:
                    return Long.bitCount(cellsAt(place));
            }
        }

        int wholeValue(int what) {
            switch (what) {
                case 10:
                    return Integer.bitCount(pitches);
                case 11:
                    return strokes;
                case 12:
                    return goodParts;
                case 13:
                    return badParts;
                default:
                    return slugs;
            }
        }

        void forgetBend(int operation) {
            int before = (1 << operation) - 1;
            for (int s = 0; s < bends.length; s++) {
                bends[s] = (bends[s] & before) | ((bends[s] >> 1) & ~before);
            }
        }

        /** One stroke; what StripDie.stroke answers. */
        int feed(Die die) {
            int good = goodParts;
            int bad = badParts;
            strokes++;
            moveOn(die);
            cutOff(die);
            catchDrift(die);
            work(die);
            if (badParts > bad) {
                return 2;
            }
            return goodParts > good ? 1 : 0;
        }

        private void moveOn(Die die) {
            for (int s = STATIONS; s >= 1; s--) {
                changePitch(s, cellsAt(s - 1), bendsAt(s - 1), offsetAt(s - 1) + die.setting(DRIFT));
            }
            changePitch(0, die.allCells(), 0, 0);
            pitches = (pitches << 1) | 1;
            spoiled = spoiled << 1;
        }

        private void cutOff(Die die) {
            long part = die.partCells();
            long waste = die.wasteCells();
            for (int s = die.planStations(); s < PLACES; s++) {
                if (hasPitch(s)) {
                    boolean rightCells = (cellsAt(s) & (part | waste)) == part;
                    if (rightCells && hasAllBends(die, s) && !isIn(spoiled, s)) {
                        goodParts++;
                    } else {
                        badParts++;
                    }
                    pitches &= ~(1 << s);
                    spoiled &= ~(1 << s);
                }
            }
        }

        private boolean hasAllBends(Die die, int place) {
            for (int o = 0; o < die.operations; o++) {
                if (die.fact(o, KIND) == BEND && !isIn(bendsAt(place), o)) {
                    return false;
                }
            }
            return true;
        }

        private void catchDrift(Die die) {
            for (int s = 0; s < STATIONS; s++) {
                if (hasPitch(s) && die.hasPilot(s)) {
                    if (offsetAt(s) <= die.setting(CATCH)) {
                        changePitch(s, cellsAt(s), bendsAt(s), 0);
                    } else {
                        spoiled |= 1 << s;
                    }
                }
            }
        }

        private void work(Die die) {
            for (int o = 0; o < die.operations; o++) {
                int s = die.fact(o, PLACE);
                if (s != NONE && hasPitch(s)) {
                    doOperation(die, o, s);
                }
            }
        }

        private void doOperation(Die die, int operation, int place) {
            if (die.fact(operation, KIND) == PUNCH) {
                long taken = cellsAt(place) & die.cellsOf(operation);
                slugs += Long.bitCount(taken);
                changePitch(place, cellsAt(place) & ~taken, bendsAt(place), offsetAt(place));
            } else {
                changePitch(place, cellsAt(place), bendsAt(place) | (1 << operation), offsetAt(place));
            }
            if (offsetAt(place) > die.setting(TOLERANCE)) {
                spoiled |= 1 << place;
            }
        }
    }

    /** Searches plans without fault; what it found stays in chosen until the next search. */
    private static final class Planner {
        // Above the 8 + 8^2 + .. + 8^6 stations that can be tried, with as many steps back.
        static final int MOST_STEPS = 1000000;

        int operations;
        int limit;
        int gap;
        int bends;
        int greatestForce;
        final int[] chosen = new int[MOST_OPERATIONS];
        final int[] touching = new int[MOST_OPERATIONS];
        final int[] forces = new int[MOST_OPERATIONS];

        /** The stations of the best plan, or NONE. */
        int findBest(Die die) {
            prepare(die);
            limit = die.setting(LIMIT);
            // Without this, a force that no station can take would be found out plan by plan.
            if (greatestForce > limit) {
                return NONE;
            }
            for (int stations = 0; stations <= STATIONS; stations++) {
                if (findWithin(stations)) {
                    return stations;
                }
            }
            return NONE;
        }

        /** Halves the range: what goes with a limit goes with each greater one. */
        int findLeastLimit(Die die) {
            prepare(die);
            limit = MOST_LIMIT;
            if (!findWithin(STATIONS)) {
                return NONE;
            }
            int low = Math.max(1, greatestForce);
            int high = MOST_LIMIT;
            for (int step = 0; step < MOST_LIMIT && low < high; step++) {
                limit = (low + high) / 2;
                if (findWithin(STATIONS)) {
                    high = limit;
                } else {
                    low = limit + 1;
                }
            }
            return low;
        }

        void putInto(Die die) {
            for (int o = 0; o < die.operations; o++) {
                die.changeFact(o, PLACE, chosenFor(o));
            }
        }

        int chosenFor(int operation) {
            return operation >= 0 && operation < chosen.length ? chosen[operation] : NONE;
        }

        private void prepare(Die die) {
            operations = Math.min(die.operations, MOST_OPERATIONS);
            gap = die.setting(GAP);
            bends = 0;
            greatestForce = 0;
            for (int o = 0; o < operations && o < touching.length && o < forces.length; o++) {
                touching[o] = die.touching(o);
                forces[o] = die.fact(o, FORCE);
                greatestForce = Math.max(greatestForce, forces[o]);
                if (die.fact(o, KIND) == BEND) {
                    bends |= 1 << o;
                }
            }
        }

        /** Goes through the plans with stations below a bound, lowest first, and stays at the first without fault. */
        private boolean findWithin(int stations) {
            for (int o = 0; o < chosen.length; o++) {
                chosen[o] = NONE;
            }
            int o = 0;
            for (int step = 0; step < MOST_STEPS && o >= 0 && o < operations && o < chosen.length; step++) {
                chosen[o] = nextStation(o, stations);
                o = chosen[o] == NONE ? o - 1 : o + 1;
            }
            return o >= operations;
        }

        // A punch that leaves no station for a bend that touches it need not be tried at all.
        private int nextStation(int operation, int stations) {
            boolean bend = isIn(bends, operation);
            boolean waits = (touchingOf(operation) & (bend ? ~bends : bends)) != 0;
            int from = chosenFor(operation) + 1;
            int end = stations;
            if (waits && bend) {
                from = Math.max(from, 1 + gap);
            } else if (waits) {
                end = stations - 1 - gap;
            }
            for (int s = from; s < end; s++) {
                if (fits(operation, s)) {
                    return s;
                }
            }
            return NONE;
        }

        private boolean fits(int operation, int station) {
            int force = forceOf(operation);
            boolean bend = isIn(bends, operation);
            for (int o = 0; o < operation; o++) {
                int ahead = station - chosenFor(o);
                boolean early = bend == isIn(bends, o) ? ahead == 0 : (bend ? ahead : -ahead) < 1 + gap;
                if (early && isIn(touchingOf(operation), o)) {
                    return false;
                }
                if (ahead == 0) {
                    force += forceOf(o);
                }
            }
            return force <= limit;
        }

        private int touchingOf(int operation) {
            return operation >= 0 && operation < touching.length ? touching[operation] : 0;
        }

        private int forceOf(int operation) {
            return operation >= 0 && operation < forces.length ? forces[operation] : 0;
        }
    }

    /** The command text, and the command in it that was read last. */
    private static final class CommandText {
        final byte[] bytes = new byte[MOST_BYTES];
        final int[] numbers = new int[MOST_NUMBERS];
        int length;
        int at;
        int word;

        void append(int value) {
            if (length >= 0 && length < bytes.length) {
                bytes[length] = (byte) value;
                length++;
            }
        }

        int number(int index) {
            return index >= 0 && index < numbers.length ? numbers[index] : 0;
        }

        /** The index of the first byte that cannot stand, the length if more has to follow, or NONE. */
        int findFault() {
            at = 0;
            for (int step = 0; step < MOST_BYTES; step++) {
                if (isAtEnd()) {
                    return NONE;
                }
                int fault = readCommand();
                if (fault != NONE) {
                    return fault;
                }
            }
            return NONE;
        }

        boolean isAtEnd() {
            skipSpaces();
            return at >= length;
        }

        /** Reads one command with its semicolon; its fault, or NONE. */
        int readCommand() {
            int start = at;
            while (isLetter(byteAt(at)) && at < MOST_BYTES) {
                at++;
            }
            if (at == start) {
                return at;
            }
            word = findWord(start, at - start);
            if (word == NONE) {
                return start;
            }
            for (int i = 0; i < numbersOf(word); i++) {
                if (!readNumber(i)) {
                    return at;
                }
            }
            skipSpaces();
            if (byteAt(at) != ';') {
                return at;
            }
            at++;
            return NONE;
        }

        // A fourth digit is left where it stands: what follows a number then finds it at fault.
        private boolean readNumber(int index) {
            if (byteAt(at) != ' ') {
                return false;
            }
            skipSpaces();
            if (!isDigit(byteAt(at))) {
                return false;
            }
            int value = 0;
            for (int i = 0; i < MOST_DIGITS && isDigit(byteAt(at)); i++) {
                value = 10 * value + byteAt(at) - '0';
                at++;
            }
            if (index >= 0 && index < numbers.length) {
                numbers[index] = value;
            }
            return true;
        }

        private void skipSpaces() {
            while (byteAt(at) == ' ' && at < MOST_BYTES) {
                at++;
            }
        }

        private int byteAt(int index) {
            return index >= 0 && index < length && index < bytes.length ? bytes[index] : NONE;
        }

        private static boolean isLetter(int value) {
            return value >= 'a' && value <= 'z';
        }

        private static boolean isDigit(int value) {
            return value >= '0' && value <= '9';
        }

        private int findWord(int start, int letters) {
            for (int w = 0; w < WORDS; w++) {
                if (isWord(nameOf(w), start, letters)) {
                    return w;
                }
            }
            return NONE;
        }

        private boolean isWord(String name, int start, int letters) {
            if (name.length() != letters) {
                return false;
            }
            for (int i = 0; i < name.length(); i++) {
                if (name.charAt(i) != byteAt(start + i)) {
                    return false;
                }
            }
            return true;
        }

        private static String nameOf(int word) {
            switch (word) {
                case WORD_PITCH:
                    return "pitch";
                case WORD_PART:
                    return "part";
                case WORD_LINK:
                    return "link";
                case WORD_PUNCH:
                    return "punch";
                case WORD_BEND:
                    return "bend";
                case WORD_PLACE:
                    return "place";
                case WORD_PLAN:
                    return "plan";
                case WORD_PILOT:
                    return "pilot";
                case WORD_STROKE:
                    return "stroke";
                default:
                    return "";
            }
        }

        private static int numbersOf(int word) {
            switch (word) {
                case WORD_PART:
                case WORD_LINK:
                case WORD_PUNCH:
                    return 4;
                case WORD_BEND:
                    return 3;
                case WORD_PITCH:
                case WORD_PLACE:
                    return 2;
                case WORD_PILOT:
                case WORD_STROKE:
                    return 1;
                default:
                    return 0;
            }
        }
    }
}
