import java.util.Arrays;

/** The flight plan of a flight management computer. */
public final class FlightLegs {
    public static final int NONE = -1000000, BAD_INDEX = -1000001, BAD_VALUE = -1000002, BAD_STATE = -1000003, FULL = -1000004;

    private static final int MOST_FIXES = 16;
    private static final int MOST_LEGS = 20;
    private static final int MOST_BYTES = 200;
    private static final int MOST_TEXT_LEGS = 12;
    private static final int MOST_STATES = 6;
    private static final int MOST_SEGMENTS_OF_LEG = 2;
    private static final int MOST_PIECES_OF_LEG = 6;
    private static final int FARTHEST = 9999;
    private static final int STRONGEST_WIND = 99;
    private static final int HIGHEST = 450;
    private static final int NO_LIMIT = 999;
    private static final int LAST_COURSE = 23;
    private static final int LONGEST_FLIGHT = 2000;
    /** Marks a place without a leg, fix or number where the document's NONE is not the answer. */
    private static final int NOTHING = -1;

    private static final int IF = 0, TF = 1, DF = 2, CF = 3, CA = 4, CI = 5, VM = 6, HF = 7, PP = 8;
    private static final int FLOWN_BY = 1, FLOWN_OVER = 2;
    private static final int STRAIGHT = 0, ARC = 1, PATTERN = 2;
    private static final int DIRECT = 0, TEARDROP = 1, PARALLEL = 2;

    private final Settings settings;
    private final RouteText text;
    private final Plan active;
    private final Plan modified;
    private final Plan trial;
    private final Path activePath;
    private final Path modifiedPath;
    private final Path trialPath;
    private final History history;
    private final Progress progress;
    private boolean editing;

    public FlightLegs() {
        settings = new Settings();
        text = new RouteText(settings);
        // Going direct to leg 0 of a full plan takes one leg more than a plan may have; directSaving still asks for its length.
        int room = MOST_LEGS + 1;
        active = new Plan(room);
        modified = new Plan(room);
        trial = new Plan(room);
        activePath = new Path(active, settings, room);
        modifiedPath = new Path(modified, settings, room);
        trialPath = new Path(trial, settings, room);
        history = new History();
        progress = new Progress(active, activePath);
        editing = false;
    }

    // ---- the text of legs

    public int type(int code) {
        if (!within(code, 0, 255)) {
            return BAD_VALUE;
        }
        return text.append(code) ? text.length : FULL;
    }

    public int clearText() {
        int before = text.length;
        text.length = 0;
        return before;
    }

    public int textFault() {
        return text.parse();
    }

    // ---- fixes and settings

    public int addFix(int x, int y) {
        if (!within(x, -FARTHEST, FARTHEST) || !within(y, -FARTHEST, FARTHEST)) {
            return BAD_VALUE;
        }
        if (settings.fixCount >= MOST_FIXES) {
            return FULL;
        }
        int fix = settings.fixCount;
        settings.fixes.put(fix, Settings.FIX_X, x);
        settings.fixes.put(fix, Settings.FIX_Y, y);
        settings.fixCount = fix + 1;
        return fix;
    }

    public int setWind(int east, int north) {
        if (!within(east, -STRONGEST_WIND, STRONGEST_WIND) || !within(north, -STRONGEST_WIND, STRONGEST_WIND)) {
            return BAD_VALUE;
        }
        settings.windEast = east;
        settings.windNorth = north;
        afterSetting();
        return 1;
    }

    public int setCruise(int altitude, int speed) {
        if (!within(altitude, 10, HIGHEST) || !within(speed, 100, 500)) {
            return BAD_VALUE;
        }
        int before = settings.cruiseAltitude;
        settings.cruiseAltitude = altitude;
        settings.cruiseSpeed = speed;
        afterSetting();
        return before;
    }

    public int setGradients(int climb, int descent, int steepest) {
        if (!isGradient(climb) || !isGradient(descent) || !isGradient(steepest)) {
            return BAD_VALUE;
        }
        int before = settings.climbGradient;
        settings.climbGradient = climb;
        settings.descentGradient = descent;
        settings.steepestGradient = steepest;
        afterSetting();
        return before;
    }

    public int setEnds(int departure, int arrival) {
        if (!within(departure, 0, HIGHEST) || !within(arrival, 0, HIGHEST)) {
            return BAD_VALUE;
        }
        int before = settings.departureAltitude;
        settings.departureAltitude = departure;
        settings.arrivalAltitude = arrival;
        afterSetting();
        return before;
    }

    // ---- edits

    public int load() {
        if (text.parse() != NONE) {
            return BAD_STATE;
        }
        beginEdit();
        modified.replaceAll(text.legs, text.count);
        return modified.count;
    }

    public int insert(int index) {
        Plan plan = planToEdit();
        if (!within(index, 0, plan.count)) {
            return BAD_INDEX;
        }
        if (text.parse() != NONE || (plan.count > 0 && index <= plan.current)) {
            return BAD_STATE;
        }
        int fix = text.legs.get(text.count - 1, Plan.FIX);
        int removed = plan.legsUpToFix(index, fix);
        if (plan.count - removed + text.count > MOST_LEGS) {
            return FULL;
        }
        beginEdit();
        modified.splice(index, removed, text.legs, text.count);
        return modified.count;
    }

    public int delete(int index) {
        Plan plan = planToEdit();
        if (!plan.hasLeg(index)) {
            return BAD_INDEX;
        }
        if (index <= plan.current) {
            return BAD_STATE;
        }
        beginEdit();
        modified.removeLeg(index);
        return modified.count;
    }

    public int closeGap(int index) {
        Plan plan = planToEdit();
        if (!plan.hasLeg(index)) {
            return BAD_INDEX;
        }
        if (index <= plan.current || plan.legs.get(index, Plan.GAP) == 0) {
            return BAD_STATE;
        }
        beginEdit();
        modified.legs.put(index, Plan.GAP, 0);
        return freshPathOf(1).gaps();
    }

    public int setWindow(int index, int low, int high) {
        Plan plan = planToEdit();
        if (!plan.hasLeg(index)) {
            return BAD_INDEX;
        }
        if (!within(low, 0, HIGHEST) || !within(high, low, HIGHEST)) {
            return BAD_VALUE;
        }
        if (index < plan.current) {
            return BAD_STATE;
        }
        beginEdit();
        modified.legs.put(index, Plan.LOW, low);
        modified.legs.put(index, Plan.HIGH, high);
        return freshPathOf(1).violations();
    }

    public int setSpeedLimit(int index, int speed) {
        Plan plan = planToEdit();
        if (!plan.hasLeg(index)) {
            return BAD_INDEX;
        }
        if (!within(speed, 100, 500) && speed != NO_LIMIT) {
            return BAD_VALUE;
        }
        if (index < plan.current) {
            return BAD_STATE;
        }
        beginEdit();
        int before = modified.legs.get(index, Plan.LIMIT);
        modified.legs.put(index, Plan.LIMIT, speed);
        return before;
    }

    public int setFlyOver(int index, boolean over) {
        Plan plan = planToEdit();
        if (!plan.hasLeg(index)) {
            return BAD_INDEX;
        }
        if (index < plan.current) {
            return BAD_STATE;
        }
        beginEdit();
        int before = modified.legs.get(index, Plan.OVER);
        modified.legs.put(index, Plan.OVER, over ? 1 : 0);
        return before;
    }

    public int directTo(int index) {
        Plan plan = planToEdit();
        if (!plan.hasLeg(index)) {
            return BAD_INDEX;
        }
        if (index < plan.current || plan.legs.get(index, Plan.FIX) == NONE || !hasPosition()) {
            return BAD_STATE;
        }
        if (plan.count - index + 1 > MOST_LEGS) {
            return FULL;
        }
        beginEdit();
        modified.goDirect(index, progress.x, progress.y, progress.course);
        return modified.count;
    }

    public int undo() {
        if (history.size == 0) {
            return BAD_STATE;
        }
        editing = history.restore(modified);
        modifiedPath.stale = true;
        return history.size;
    }

    public int execute() {
        if (!editing) {
            return BAD_STATE;
        }
        if (modified.restarted) {
            progress.flown = 0;
        }
        active.copyFrom(modified);
        active.restarted = false;
        endEditing();
        afterSetting();
        return active.count;
    }

    public int cancel() {
        if (!editing) {
            return BAD_STATE;
        }
        endEditing();
        return active.count;
    }

    // ---- flying

    public int fly(int length) {
        if (!within(length, 0, LONGEST_FLIGHT)) {
            return BAD_VALUE;
        }
        if (editing || active.count == 0) {
            return BAD_STATE;
        }
        activePath.refresh();
        return progress.advance(length);
    }

    public int resume() {
        if (editing) {
            return BAD_STATE;
        }
        activePath.refresh();
        if (!progress.waitsAtGap()) {
            return BAD_STATE;
        }
        progress.beginNextLeg();
        return active.current;
    }

    public int currentLeg() {
        return active.count == 0 ? NONE : active.current;
    }

    public int flownLength() {
        return active.count == 0 ? NONE : progress.flown;
    }

    public int positionX() {
        return hasPosition() ? progress.x : NONE;
    }

    public int positionY() {
        return hasPosition() ? progress.y : NONE;
    }

    public int presentCourse() {
        return hasPosition() ? progress.course : NONE;
    }

    public int directSaving(int index) {
        if (!active.hasLeg(index)) {
            return BAD_INDEX;
        }
        if (index < active.current || active.legs.get(index, Plan.FIX) == NONE || !hasPosition()) {
            return BAD_STATE;
        }
        trial.copyFrom(active);
        trial.goDirect(index, progress.x, progress.y, progress.course);
        trialPath.stale = true;
        trialPath.refresh();
        int planned = activePath.lengthOf(active.current, index) - progress.flown;
        return planned - trialPath.legs.get(1, Path.LENGTH);
    }

    // ---- legs

    public int legCount(int plan) {
        return isPlan(plan) ? planOf(plan).count : BAD_INDEX;
    }

    public int legKind(int plan, int leg) {
        return planValue(plan, leg, Plan.KIND);
    }

    public int legFix(int plan, int leg) {
        return planValue(plan, leg, Plan.FIX);
    }

    public int hasGap(int plan, int leg) {
        if (!isLeg(plan, leg)) {
            return BAD_INDEX;
        }
        return freshPathOf(plan).gapBefore(leg) ? 1 : 0;
    }

    public int endX(int plan, int leg) {
        return pathValue(plan, leg, Path.END_X);
    }

    public int endY(int plan, int leg) {
        return pathValue(plan, leg, Path.END_Y);
    }

    public int legCourse(int plan, int leg) {
        return pathValue(plan, leg, Path.END_COURSE);
    }

    public int legLength(int plan, int leg) {
        return pathValue(plan, leg, Path.LENGTH);
    }

    public int legTime(int plan, int leg) {
        return pathValue(plan, leg, Path.TIME);
    }

    public int lengthTo(int plan, int leg) {
        if (!isLeg(plan, leg)) {
            return BAD_INDEX;
        }
        return freshPathOf(plan).lengthOf(0, leg);
    }

    // ---- turns and holding patterns

    public int turnKind(int plan, int leg) {
        return pathValue(plan, leg, Path.TURN);
    }

    public int turnSteps(int plan, int leg) {
        return pathValue(plan, leg, Path.STEPS);
    }

    public int turnRadius(int plan, int leg) {
        return pathValue(plan, leg, Path.RADIUS);
    }

    public int turnLead(int plan, int leg) {
        return pathValue(plan, leg, Path.LEAD);
    }

    public int holdEntry(int plan, int leg) {
        return pathValue(plan, leg, Path.ENTRY);
    }

    public int entryFor(int arrival, int inbound, boolean right) {
        if (!within(arrival, 0, LAST_COURSE) || !within(inbound, 0, LAST_COURSE)) {
            return BAD_VALUE;
        }
        return Compass.entry(arrival, inbound, right);
    }

    // ---- pieces of the path

    public int pieceCount(int plan) {
        return isPlan(plan) ? freshPathOf(plan).pieces.count : BAD_INDEX;
    }

    public int pieceLeg(int plan, int piece) {
        return pieceValue(plan, piece, Pieces.LEG);
    }

    public int pieceKind(int plan, int piece) {
        return pieceValue(plan, piece, Pieces.KIND);
    }

    public int pieceLength(int plan, int piece) {
        return pieceValue(plan, piece, Pieces.LENGTH);
    }

    public int pieceCourse(int plan, int piece) {
        return pieceValue(plan, piece, Pieces.COURSE);
    }

    public int pieceX(int plan, int piece) {
        return pieceValue(plan, piece, Pieces.LAST_X);
    }

    public int pieceY(int plan, int piece) {
        return pieceValue(plan, piece, Pieces.LAST_Y);
    }

    // ---- vertical profile

    public int climbAltitude(int plan, int leg) {
        return pathValue(plan, leg, Path.CLIMB);
    }

    public int descentAltitude(int plan, int leg) {
        return pathValue(plan, leg, Path.DESCENT);
    }

    public int altitude(int plan, int leg) {
        return pathValue(plan, leg, Path.ALTITUDE);
    }

    public int altitudeAt(int plan, int leg, int length) {
        if (!isLeg(plan, leg)) {
            return BAD_INDEX;
        }
        Path path = freshPathOf(plan);
        if (!within(length, 0, path.legs.get(leg, Path.LENGTH))) {
            return BAD_VALUE;
        }
        return path.profile.heightOn(leg, length);
    }

    public int violation(int plan, int leg) {
        return pathValue(plan, leg, Path.VIOLATION);
    }

    public int topOfDescent(int plan) {
        return isPlan(plan) ? freshPathOf(plan).topOfDescentLength() : BAD_INDEX;
    }

    // ---- totals

    public int gapCount(int plan) {
        return isPlan(plan) ? freshPathOf(plan).gaps() : BAD_INDEX;
    }

    public int totalLength(int plan) {
        if (!isPlan(plan)) {
            return BAD_INDEX;
        }
        return freshPathOf(plan).lengthOf(0, planOf(plan).count - 1);
    }

    public int totalTime(int plan) {
        return isPlan(plan) ? freshPathOf(plan).time() : BAD_INDEX;
    }

    public int violationCount(int plan) {
        return isPlan(plan) ? freshPathOf(plan).violations() : BAD_INDEX;
    }

    // ---- what the calls share

    private static boolean within(int value, int low, int high) {
        return value >= low && value <= high;
    }

    private static boolean isGradient(int gradient) {
        return within(gradient, 100, 900);
    }

    private boolean isPlan(int plan) {
        return plan == 0 || (plan == 1 && editing);
    }

    private boolean isLeg(int plan, int leg) {
        return isPlan(plan) && planOf(plan).hasLeg(leg);
    }

    private Plan planOf(int plan) {
        return plan == 0 ? active : modified;
    }

    private Path pathOf(int plan) {
        return plan == 0 ? activePath : modifiedPath;
    }

    private Path freshPathOf(int plan) {
        Path path = pathOf(plan);
        path.refresh();
        return path;
    }

    private int planValue(int plan, int leg, int column) {
        return isLeg(plan, leg) ? planOf(plan).legs.get(leg, column) : BAD_INDEX;
    }

    private int pathValue(int plan, int leg, int column) {
        if (!isLeg(plan, leg)) {
            return BAD_INDEX;
        }
        Path path = pathOf(plan);
        path.refresh();
        return path.legs.get(leg, column);
    }

    private int pieceValue(int plan, int piece, int column) {
        if (!isPlan(plan)) {
            return BAD_INDEX;
        }
        Path path = pathOf(plan);
        path.refresh();
        return within(piece, 0, path.pieces.count - 1) ? path.pieces.table.get(piece, column) : BAD_INDEX;
    }

    /** The plan against which an edit is checked, so that a refused edit makes no modified plan. */
    private Plan planToEdit() {
        return editing ? modified : active;
    }

    private void beginEdit() {
        history.record(editing, modified);
        if (!editing) {
            modified.copyFrom(active);
            editing = true;
        }
        modifiedPath.stale = true;
    }

    private void endEditing() {
        editing = false;
        history.size = 0;
    }

    /** The flown length is cut at once: a later setting may make the leg longer again, and it must not grow back. */
    private void afterSetting() {
        activePath.stale = true;
        modifiedPath.stale = true;
        activePath.refresh();
        progress.cutToLeg();
    }

    private boolean hasPosition() {
        activePath.refresh();
        return progress.locate();
    }

    /** Rows of ints of a fixed width. A place outside reads as 0 and takes nothing, so that no index can fail. */
    private static final class Table {
        private final int rows;
        private final int width;
        private final int[] cells;

        Table(int rows, int width) {
            this.rows = Math.max(0, Math.min(rows, 1000));
            this.width = Math.max(0, Math.min(width, 100));
            cells = new int[this.rows * this.width];
        }

        int get(int row, int column) {
            if (row < 0 || row >= rows || column < 0 || column >= width) {
                return 0;
            }
            return cells[row * width + column];
        }

        void put(int row, int column, int value) {
            if (row >= 0 && row < rows && column >= 0 && column < width) {
                cells[row * width + column] = value;
            }
        }

        void clear() {
            Arrays.fill(cells, 0);
        }

        /** Copies rows of a table of the same width, which may be this one, even where the rows overlap. */
        void copyRows(Table source, int from, int to, int many) {
            if (source.width != width || many <= 0 || from < 0 || to < 0) {
                return;
            }
            if (from <= source.rows - many && to <= rows - many) {
                System.arraycopy(source.cells, from * width, cells, to * width, many * width);
            }
        }
    }

    /** Courses, directions and the distances of points. */
    private static final class Compass {
        private static final int[] SINES = {
            0, 259, 500, 707, 866, 966, 1000, 966, 866, 707, 500, 259,
            0, -259, -500, -707, -866, -966, -1000, -966, -866, -707, -500, -259};

        /** The course from 0 to 23 that a sum or difference of courses stands for. */
        static int course(int steps) {
            return (steps % 24 + 24) % 24;
        }

        static int east(int course) {
            return SINES[(course % 24 + 24) % 24];
        }

        static int north(int course) {
            return SINES[((course + 6) % 24 + 24) % 24];
        }

        static int pointX(int x, int course, int length) {
            return (int) (x + (long) length * east(course) / 1000);
        }

        static int pointY(int y, int course, int length) {
            return (int) (y + (long) length * north(course) / 1000);
        }

        static int distance(int x1, int y1, int x2, int y2) {
            long dx = (long) x2 - x1;
            long dy = (long) y2 - y1;
            return root(dx * dx + dy * dy);
        }

        /** The square root, rounded down, digit by binary digit: a double could round it up. */
        static int root(long square) {
            long rest = square;
            long result = 0;
            for (long digit = 1L << 60; digit > 0; digit >>= 2) {
                if (rest >= result + digit) {
                    rest -= result + digit;
                    result = (result >> 1) + digit;
                } else {
                    result >>= 1;
                }
            }
            return (int) result;
        }

        static int courseBetween(int x1, int y1, int x2, int y2) {
            long dx = (long) x2 - x1;
            long dy = (long) y2 - y1;
            int best = 0;
            long most = dx * east(0) + dy * north(0);
            for (int course = 1; course <= LAST_COURSE; course++) {
                long product = dx * east(course) + dy * north(course);
                if (product > most) {
                    most = product;
                    best = course;
                }
            }
            return best;
        }

        /** One coordinate of the point that lies a stretch before b on the way from a to b, whose length is given. */
        static int before(int a, int b, int stretch, int length) {
            if (length == 0) {
                return b;
            }
            if (stretch > length) {
                return a;
            }
            return (int) (b + ((long) a - b) * stretch / length);
        }

        static int entry(int arrival, int inbound, boolean right) {
            int angle = course(right ? arrival - inbound : inbound - arrival);
            if (angle <= 7 || angle >= 20) {
                return DIRECT;
            }
            return angle <= 11 ? TEARDROP : PARALLEL;
        }

        static int turnRadiusAt(int speed) {
            return Math.max(1, speed * speed / 3200);
        }

        static int arcLength(int radius, int steps) {
            return radius * steps * 262 / 1000;
        }
    }

    private static final class Settings {
        static final int FIX_X = 0, FIX_Y = 1;

        final Table fixes = new Table(MOST_FIXES, 2);
        int fixCount = 0;
        int windEast = 0;
        int windNorth = 0;
        int cruiseAltitude = 300;
        int cruiseSpeed = 400;
        int climbGradient = 300;
        int descentGradient = 318;
        int steepestGradient = 500;
        int departureAltitude = 0;
        int arrivalAltitude = 0;

        int airSpeed(int limit) {
            return Math.min(cruiseSpeed, limit);
        }

        int groundSpeed(int limit, int course) {
            int wind = (windEast * Compass.east(course) + windNorth * Compass.north(course)) / 1000;
            return Math.max(50, airSpeed(limit) + wind);
        }

        /** The length over which an altitude changes by so much. */
        static int lengthFor(int change, int gradient) {
            return gradient == 0 ? 0 : change * 1000 / gradient;
        }

        static int changeOver(int length, int gradient) {
            return (int) ((long) length * gradient / 1000);
        }
    }

    /** The legs of a plan, its current leg, and whether load or directTo was among the edits that made it. */
    private static final class Plan {
        static final int KIND = 0, FIX = 1, COURSE = 2, TARGET = 3, RIGHT = 4, SIDE = 5, CIRCUITS = 6;
        static final int X = 7, Y = 8, LOW = 9, HIGH = 10, LIMIT = 11, OVER = 12, GAP = 13;
        static final int WIDTH = 14;

        final Table legs;
        int count = 0;
        int current = 0;
        boolean restarted = false;

        Plan(int room) {
            legs = new Table(room, WIDTH);
        }

        /** Writes a leg with nothing but its kind and what every leg has at first. */
        static void putPlainLeg(Table legs, int leg, int kind) {
            for (int column = 0; column < WIDTH; column++) {
                legs.put(leg, column, 0);
            }
            legs.put(leg, KIND, kind);
            legs.put(leg, FIX, NONE);
            legs.put(leg, HIGH, HIGHEST);
            legs.put(leg, LIMIT, NO_LIMIT);
        }

        boolean hasLeg(int leg) {
            return leg >= 0 && leg < count;
        }

        int kind(int leg) {
            return legs.get(leg, KIND);
        }

        void copyFrom(Plan other) {
            legs.copyRows(other.legs, 0, 0, other.count);
            count = other.count;
            current = other.current;
            restarted = other.restarted;
        }

        void replaceAll(Table source, int many) {
            legs.copyRows(source, 0, 0, many);
            count = many;
            restart();
        }

        /** How many legs from index on end with the first one at the fix; 0 if there is no such leg. */
        int legsUpToFix(int index, int fix) {
            if (fix == NONE) {
                return 0;
            }
            for (int leg = index; leg < count; leg++) {
                if (legs.get(leg, FIX) == fix) {
                    return leg - index + 1;
                }
            }
            return 0;
        }

        void splice(int index, int removed, Table source, int many) {
            legs.copyRows(legs, index + removed, index + many, count - index - removed);
            legs.copyRows(source, 0, index, many);
            if (removed == 0 && index < count) {
                legs.put(index + many, GAP, 1);
            }
            count = count - removed + many;
        }

        void removeLeg(int index) {
            legs.copyRows(legs, index + 1, index, count - index - 1);
            count--;
            if (index < count) {
                legs.put(index, GAP, 1);
            }
        }

        void goDirect(int index, int x, int y, int course) {
            legs.copyRows(legs, index, 1, count - index);
            count = count - index + 1;
            putPlainLeg(legs, 0, PP);
            legs.put(0, X, x);
            legs.put(0, Y, y);
            legs.put(0, COURSE, course);
            legs.put(1, GAP, 0);
            if (kind(1) != HF) {
                legs.put(1, KIND, DF);
            }
            restart();
        }

        private void restart() {
            current = 0;
            restarted = true;
        }
    }

    /** The states before the latest edits, in a ring, so that the oldest one is dropped without moving the others. */
    private static final class History {
        private static final int EXISTS = 0, COUNT = 1, CURRENT = 2, RESTARTED = 3, WIDTH = 4;

        private final Table heads = new Table(MOST_STATES, WIDTH);
        private final Table legs = new Table(MOST_STATES * MOST_LEGS, Plan.WIDTH);
        private int next = 0;
        int size = 0;

        void record(boolean exists, Plan plan) {
            heads.put(next, EXISTS, exists ? 1 : 0);
            heads.put(next, COUNT, plan.count);
            heads.put(next, CURRENT, plan.current);
            heads.put(next, RESTARTED, plan.restarted ? 1 : 0);
            legs.copyRows(plan.legs, 0, next * MOST_LEGS, Math.min(plan.count, MOST_LEGS));
            next = (next + 1) % MOST_STATES;
            size = Math.min(size + 1, MOST_STATES);
        }

        /** Puts the latest state back and removes it; tells whether it is one with a modified plan. */
        boolean restore(Plan plan) {
            next = (next + MOST_STATES - 1) % MOST_STATES;
            size = Math.max(0, size - 1);
            plan.count = heads.get(next, COUNT);
            plan.current = heads.get(next, CURRENT);
            plan.restarted = heads.get(next, RESTARTED) == 1;
            plan.legs.copyRows(legs, next * MOST_LEGS, 0, plan.count);
            return heads.get(next, EXISTS) == 1;
        }
    }

    /** The text of legs and its reader, which stands on one token and leaves it only if it is allowed there. */
    private static final class RouteText {
        private static final int AT_END = 0, WORD = 1, NUMBER = 2, SIGN = 3;
        private static final String KINDS = "IFTFDFCFCACIVMHF";

        private final Settings settings;
        private final int[] bytes = new int[MOST_BYTES];
        final Table legs = new Table(MOST_TEXT_LEGS, Plan.WIDTH);
        int length = 0;
        int count = 0;
        private int token = AT_END;
        private int start = 0;
        private int after = 0;

        RouteText(Settings settings) {
            this.settings = settings;
        }

        boolean append(int code) {
            if (length < 0 || length >= bytes.length) {
                return false;
            }
            bytes[length] = code;
            length++;
            return true;
        }

        /** Reads the text into the legs; returns its fault, or NONE. */
        int parse() {
            count = 0;
            after = 0;
            nextToken();
            for (int leg = 0; leg < MOST_TEXT_LEGS; leg++) {
                if (!readKind(leg) || !readAttributes(leg)) {
                    return start;
                }
                count = leg + 1;
                if (token == AT_END) {
                    return NONE;
                }
                if (count < MOST_TEXT_LEGS) {
                    nextToken();
                }
            }
            return start;
        }

        private int byteAt(int place) {
            return place >= 0 && place < length && place < bytes.length ? bytes[place] : NOTHING;
        }

        private static int classOf(int code) {
            if (code == NOTHING) {
                return AT_END;
            }
            if (code >= 'A' && code <= 'Z') {
                return WORD;
            }
            return code >= '0' && code <= '9' ? NUMBER : SIGN;
        }

        private void nextToken() {
            start = after;
            while (start < length && byteAt(start) == ' ') {
                start++;
            }
            token = classOf(byteAt(start));
            after = token == AT_END ? start : start + 1;
            if (token == WORD || token == NUMBER) {
                while (after < length && classOf(byteAt(after)) == token) {
                    after++;
                }
            }
        }

        private int tokenLength() {
            return after - start;
        }

        private boolean readKind(int leg) {
            int kind = kindNamed();
            if (kind == NOTHING) {
                return false;
            }
            nextToken();
            Plan.putPlainLeg(legs, leg, kind);
            if (kind != CA && kind != CI && kind != VM && !readFix(leg)) {
                return false;
            }
            if (kind >= CF && !readNumber(leg, Plan.COURSE, 0, LAST_COURSE)) {
                return false;
            }
            if (kind == CA) {
                return readNumber(leg, Plan.TARGET, 0, HIGHEST);
            }
            return kind != HF || readPattern(leg);
        }

        private int kindNamed() {
            if (token != WORD || tokenLength() != 2) {
                return NOTHING;
            }
            for (int kind = 0; 2 * kind + 1 < KINDS.length(); kind++) {
                if (byteAt(start) == KINDS.charAt(2 * kind) && byteAt(start + 1) == KINDS.charAt(2 * kind + 1)) {
                    return kind;
                }
            }
            return NOTHING;
        }

        private boolean readFix(int leg) {
            int fix = byteAt(start) - 'A';
            if (token != WORD || tokenLength() != 1 || fix >= settings.fixCount) {
                return false;
            }
            nextToken();
            legs.put(leg, Plan.FIX, fix);
            legs.put(leg, Plan.X, settings.fixes.get(fix, Settings.FIX_X));
            legs.put(leg, Plan.Y, settings.fixes.get(fix, Settings.FIX_Y));
            return true;
        }

        private boolean readPattern(int leg) {
            return readSide(leg) && readNumber(leg, Plan.SIDE, 10, 200) && readNumber(leg, Plan.CIRCUITS, 1, 9);
        }

        private boolean readSide(int leg) {
            int side = byteAt(start);
            if (tokenLength() != 1 || (side != 'L' && side != 'R')) {
                return false;
            }
            nextToken();
            legs.put(leg, Plan.RIGHT, side == 'R' ? 1 : 0);
            return true;
        }

        private boolean readNumber(int leg, int column, int least, int most) {
            if (token != NUMBER || tokenLength() > 3) {
                return false;
            }
            int value = 0;
            for (int place = start; place < after; place++) {
                value = value * 10 + byteAt(place) - '0';
            }
            if (!within(value, least, most)) {
                return false;
            }
            nextToken();
            legs.put(leg, column, value);
            return true;
        }

        private boolean atLegEnd() {
            return token == AT_END || byteAt(start) == ';';
        }

        private boolean readAttributes(int leg) {
            for (int many = 0; many < MOST_BYTES && !atLegEnd(); many++) {
                if (!readAttribute(leg)) {
                    return false;
                }
            }
            return atLegEnd();
        }

        private boolean readAttribute(int leg) {
            int mark = tokenLength() == 1 ? byteAt(start) : NOTHING;
            if (mark != 'O' && mark != 'A' && mark != '+' && mark != '-' && mark != 'B' && mark != 'S') {
                return false;
            }
            nextToken();
            if (mark == 'O') {
                legs.put(leg, Plan.OVER, 1);
                return true;
            }
            if (mark == 'S') {
                return readNumber(leg, Plan.LIMIT, 100, 500);
            }
            return readWindow(leg, mark);
        }

        private boolean readWindow(int leg, int mark) {
            int column = mark == '-' ? Plan.HIGH : Plan.LOW;
            if (!readNumber(leg, column, 0, HIGHEST)) {
                return false;
            }
            if (mark == 'B') {
                return readNumber(leg, Plan.HIGH, legs.get(leg, Plan.LOW), HIGHEST);
            }
            if (mark == 'A') {
                legs.put(leg, Plan.HIGH, legs.get(leg, Plan.LOW));
            } else if (mark == '+') {
                legs.put(leg, Plan.HIGH, HIGHEST);
            } else {
                legs.put(leg, Plan.LOW, 0);
            }
            return true;
        }
    }

    /** The path of a plan: what is known of its legs, made by three steps, each of which builds on those before. */
    private static final class Path {
        static final int ANEW = 0, ENDED = 1, END_X = 2, END_Y = 3, TURN = 4, STEPS = 5, RADIUS = 6, LEAD = 7, ENTRY = 8;
        /** The columns up to ENTRY are written by Track, those up to END_COURSE by Pieces, but for its NONE, and the others by Profile. */
        static final int LENGTH = 9, TIME = 10, END_COURSE = 11, CLIMB = 12, DESCENT = 13, ALTITUDE = 14, VIOLATION = 15;
        static final int WIDTH = 16;

        private final Plan plan;
        final Table legs;
        private final Track track;
        final Pieces pieces;
        final Profile profile;
        /** The path is built only when it is asked for: an edit or a setting merely sets this. */
        boolean stale = true;

        Path(Plan plan, Settings settings, int room) {
            this.plan = plan;
            legs = new Table(room, WIDTH);
            track = new Track(plan, settings, legs, room);
            pieces = new Pieces(plan, settings, track, room);
            profile = new Profile(plan, settings, legs);
        }

        void refresh() {
            if (!stale) {
                return;
            }
            stale = false;
            track.clear();
            for (int leg = 0; leg < plan.count; leg++) {
                track.layLeg(leg);
            }
            for (int row = 0; row < track.count; row++) {
                track.turnInto(row);
            }
            pieces.clear();
            int row = 0;
            for (int leg = 0; leg < plan.count; leg++) {
                pieces.beginLeg(leg);
                for (; row < track.count && track.segments.get(row, Track.LEG) == leg; row++) {
                    pieces.drawSegment(row);
                }
                pieces.endLeg(leg);
            }
            profile.calculate();
        }

        boolean gapBefore(int leg) {
            return leg != 0 && legs.get(leg, ANEW) == 1;
        }

        int gaps() {
            int gaps = 0;
            for (int leg = 0; leg < plan.count; leg++) {
                if (gapBefore(leg)) {
                    gaps++;
                }
            }
            return gaps;
        }

        int violations() {
            int violations = 0;
            for (int leg = 0; leg < plan.count; leg++) {
                if (legs.get(leg, VIOLATION) != 0) {
                    violations++;
                }
            }
            return violations;
        }

        int lengthOf(int first, int last) {
            int length = 0;
            for (int leg = first; leg <= last && leg < plan.count; leg++) {
                length += legs.get(leg, LENGTH);
            }
            return length;
        }

        int time() {
            int time = 0;
            for (int leg = 0; leg < plan.count; leg++) {
                time += legs.get(leg, TIME);
            }
            return time;
        }

        int topOfDescentLength() {
            int top = profile.lastHighestLeg();
            if (top < 0 || top >= plan.count - 1) {
                return NONE;
            }
            int level = legs.get(top + 1, LENGTH) - profile.descentLength(top);
            return lengthOf(0, top) + Math.max(0, level);
        }
    }

    /** The segments of a path, with the turns at their starts. */
    private static final class Track {
        static final int LEG = 0, FROM_X = 1, FROM_Y = 2, TO_X = 3, TO_Y = 4, LENGTH = 5, COURSE = 6;
        static final int IN_LEG = 7, IN_COURSE = 8, IN_LENGTH = 9, LINKED = 10;
        static final int TURN = 11, STEPS = 12, RADIUS = 13, LEAD = 14, NEXT_LEAD = 15;
        private static final int WIDTH = 16;
        private static final int MOST_STEPS_FLOWN_BY = 8;
        private static final int[] LEADS = {0, 132, 268, 414, 577, 767, 1000, 1303, 1732};

        private final Plan plan;
        private final Settings settings;
        final Table legs;
        final Table segments;
        int count = 0;
        /** The point that the path has reached: where a leg that does not start anew begins. */
        private int x = 0;
        private int y = 0;
        private int inLeg = NOTHING;
        private int inCourse = 0;
        private int inLength = 0;
        /** Whether the segment before goes over into the next one, without a pattern or a new start between. */
        private boolean linked = false;
        private int climbed = 0;

        Track(Plan plan, Settings settings, Table legs, int room) {
            this.plan = plan;
            this.settings = settings;
            this.legs = legs;
            segments = new Table(room * MOST_SEGMENTS_OF_LEG, WIDTH);
        }

        void clear() {
            legs.clear();
            segments.clear();
            count = 0;
            climbed = settings.departureAltitude;
        }

        void layLeg(int leg) {
            legs.put(leg, Path.END_X, NONE);
            legs.put(leg, Path.END_Y, NONE);
            legs.put(leg, Path.END_COURSE, NONE);
            legs.put(leg, Path.ENTRY, NONE);
            int kind = plan.kind(leg);
            if (startsAnew(leg)) {
                beginAnew(leg);
            } else if (kind == CF) {
                followCourseToFix(leg);
            } else if (kind == CA) {
                climbOnCourse(leg);
            } else if (kind == CI) {
                followToInterception(leg);
            } else if (kind == VM) {
                runOn(leg, 100);
            } else {
                runTo(leg, plan.legs.get(leg, Plan.X), plan.legs.get(leg, Plan.Y));
                endHere(leg);
            }
            if (kind == HF) {
                hold(leg);
            } else if (kind == CA) {
                climbed = plan.legs.get(leg, Plan.TARGET);
            }
        }

        private boolean startsAnew(int leg) {
            int kind = plan.kind(leg);
            return leg == 0 || kind == IF || kind == PP || plan.legs.get(leg, Plan.GAP) == 1
                || legs.get(leg - 1, Path.ENDED) == 0;
        }

        private void beginAnew(int leg) {
            int kind = plan.kind(leg);
            legs.put(leg, Path.ANEW, 1);
            linked = false;
            inLeg = NOTHING;
            if (kind == CA || kind == CI || kind == VM) {
                return;
            }
            x = plan.legs.get(leg, Plan.X);
            y = plan.legs.get(leg, Plan.Y);
            endHere(leg);
            if (kind == PP) {
                comeFrom(leg, plan.legs.get(leg, Plan.COURSE), 0);
            }
        }

        private void endHere(int leg) {
            legs.put(leg, Path.ENDED, 1);
            legs.put(leg, Path.END_X, x);
            legs.put(leg, Path.END_Y, y);
        }

        private void comeFrom(int leg, int course, int length) {
            inLeg = leg;
            inCourse = course;
            inLength = length;
        }

        private void followCourseToFix(int leg) {
            int course = plan.legs.get(leg, Plan.COURSE);
            int fixX = plan.legs.get(leg, Plan.X);
            int fixY = plan.legs.get(leg, Plan.Y);
            if (plan.kind(leg - 1) == CI) {
                addSegment(leg, fixX, fixY, Compass.distance(x, y, fixX, fixY), course);
            } else {
                runTo(leg, Compass.pointX(fixX, course + 12, 50), Compass.pointY(fixY, course + 12, 50));
                addSegment(leg, fixX, fixY, 50, course);
            }
            endHere(leg);
        }

        private void climbOnCourse(int leg) {
            int rise = plan.legs.get(leg, Plan.TARGET) - climbed;
            runOn(leg, Math.max(10, Settings.lengthFor(rise, settings.climbGradient)));
            endHere(leg);
        }

        private void followToInterception(int leg) {
            int length = interception(leg);
            if (length == 0) {
                runOn(leg, 100);
                return;
            }
            runOn(leg, length);
            endHere(leg);
        }

        /** The length at which a CI leg meets the course of the next leg; 0 if it does not. */
        private int interception(int leg) {
            int next = leg + 1;
            if (!plan.hasLeg(next) || plan.kind(next) != CF || plan.legs.get(next, Plan.GAP) == 1) {
                return 0;
            }
            int course = plan.legs.get(leg, Plan.COURSE);
            int nextCourse = plan.legs.get(next, Plan.COURSE);
            long ux = Compass.east(course);
            long uy = Compass.north(course);
            long vx = Compass.east(nextCourse);
            long vy = Compass.north(nextCourse);
            long wx = (long) plan.legs.get(next, Plan.X) - x;
            long wy = (long) plan.legs.get(next, Plan.Y) - y;
            long cross = ux * vy - uy * vx;
            if (cross == 0) {
                return 0;
            }
            long length = (wx * vy - wy * vx) * 1000 / cross;
            long rest = (wy * ux - wx * uy) * 1000 / cross;
            return length >= 1 && length <= 999 && rest >= 0 ? (int) length : 0;
        }

        private void runOn(int leg, int length) {
            int course = plan.legs.get(leg, Plan.COURSE);
            addSegment(leg, Compass.pointX(x, course, length), Compass.pointY(y, course, length), length, course);
        }

        private void runTo(int leg, int toX, int toY) {
            int course = Compass.courseBetween(x, y, toX, toY);
            addSegment(leg, toX, toY, Compass.distance(x, y, toX, toY), course);
        }

        private void addSegment(int leg, int toX, int toY, int length, int course) {
            if (length <= 0) {
                return;
            }
            segments.put(count, LEG, leg);
            segments.put(count, FROM_X, x);
            segments.put(count, FROM_Y, y);
            segments.put(count, TO_X, toX);
            segments.put(count, TO_Y, toY);
            segments.put(count, LENGTH, length);
            segments.put(count, COURSE, course);
            segments.put(count, IN_LEG, inLeg);
            segments.put(count, IN_COURSE, inCourse);
            segments.put(count, IN_LENGTH, inLength);
            segments.put(count, LINKED, linked ? 1 : 0);
            count++;
            x = toX;
            y = toY;
            linked = true;
            comeFrom(leg, course, length);
        }

        private void hold(int leg) {
            int course = plan.legs.get(leg, Plan.COURSE);
            boolean right = plan.legs.get(leg, Plan.RIGHT) == 1;
            legs.put(leg, Path.ENTRY, inLeg == NOTHING ? DIRECT : Compass.entry(inCourse, course, right));
            comeFrom(leg, course, plan.legs.get(leg, Plan.SIDE));
            linked = false;
        }

        private void turnInto(int row) {
            int from = segments.get(row, IN_COURSE);
            int to = segments.get(row, COURSE);
            if (segments.get(row, IN_LEG) == NOTHING || from == to) {
                return;
            }
            int right = Compass.course(to - from);
            int steps = right <= 12 ? right : 24 - right;
            int radius = Compass.turnRadiusAt(fastest(row));
            int lead = leadOf(radius, steps);
            boolean flownBy = steps <= MOST_STEPS_FLOWN_BY && segments.get(row, IN_LENGTH) >= 2 * lead
                && segments.get(row, LENGTH) >= 2 * lead && !mustBeFlownOver(row);
            segments.put(row, TURN, flownBy ? FLOWN_BY : FLOWN_OVER);
            segments.put(row, STEPS, right <= 12 ? steps : -steps);
            segments.put(row, RADIUS, radius);
            segments.put(row, LEAD, flownBy ? lead : 0);
            if (segments.get(row, LINKED) == 1) {
                segments.put(row - 1, NEXT_LEAD, segments.get(row, LEAD));
            }
            tellLegOfTurn(row);
        }

        private static int leadOf(int radius, int steps) {
            return steps >= 0 && steps < LEADS.length ? radius * LEADS[steps] / 1000 : 0;
        }

        private int fastest(int row) {
            int before = plan.legs.get(segments.get(row, IN_LEG), Plan.LIMIT);
            int behind = plan.legs.get(segments.get(row, LEG), Plan.LIMIT);
            return Math.max(settings.groundSpeed(before, segments.get(row, IN_COURSE)),
                settings.groundSpeed(behind, segments.get(row, COURSE)));
        }

        private boolean mustBeFlownOver(int row) {
            int before = segments.get(row, IN_LEG);
            if (before == segments.get(row, LEG)) {
                return false;
            }
            return plan.kind(before) == PP || plan.legs.get(before, Plan.OVER) == 1;
        }

        private void tellLegOfTurn(int row) {
            int leg = segments.get(row, LEG);
            if (row > 0 && segments.get(row - 1, LEG) == leg) {
                return;
            }
            legs.put(leg, Path.TURN, segments.get(row, TURN));
            legs.put(leg, Path.STEPS, segments.get(row, STEPS));
            legs.put(leg, Path.RADIUS, segments.get(row, RADIUS));
            legs.put(leg, Path.LEAD, segments.get(row, LEAD));
        }
    }

    /** The pieces of a path, and the lengths and times of its legs that follow from them. */
    private static final class Pieces {
        static final int LEG = 0, KIND = 1, LENGTH = 2, COURSE = 3, FIRST_X = 4, FIRST_Y = 5, LAST_X = 6, LAST_Y = 7;
        private static final int WIDTH = 8;

        private final Plan plan;
        private final Settings settings;
        private final Table legs;
        private final Table segments;
        final Table table;
        int count = 0;
        private int firstOfLeg = 0;
        private int x = 0;
        private int y = 0;
        /** The end of the arc of a turn that is flown over; the path goes on from there even if the arc is too short to be made. */
        private int arcX = 0;
        private int arcY = 0;

        Pieces(Plan plan, Settings settings, Track track, int room) {
            this.plan = plan;
            this.settings = settings;
            legs = track.legs;
            segments = track.segments;
            table = new Table(room * MOST_PIECES_OF_LEG, WIDTH);
        }

        void clear() {
            count = 0;
        }

        void beginLeg(int leg) {
            firstOfLeg = count;
            if (legs.get(leg, Path.ANEW) == 1 && legs.get(leg, Path.ENDED) == 1) {
                x = legs.get(leg, Path.END_X);
                y = legs.get(leg, Path.END_Y);
            }
        }

        void drawSegment(int row) {
            int turn = segments.get(row, Track.TURN);
            if (turn == FLOWN_OVER) {
                drawArcOver(row);
                int kind = plan.kind(segments.get(row, Track.LEG));
                if (kind == DF || kind == HF) {
                    drawDirect(row);
                } else {
                    drawRegaining(row);
                }
                return;
            }
            int lead = segments.get(row, Track.LEAD);
            if (turn == FLOWN_BY) {
                drawArc(row, onSegmentX(row, lead), onSegmentY(row, lead));
            }
            drawRest(row, lead);
        }

        void endLeg(int leg) {
            if (plan.kind(leg) == HF) {
                drawPattern(leg);
            }
            for (int piece = firstOfLeg; piece < count; piece++) {
                addToLeg(leg, piece);
            }
        }

        private void addPiece(int leg, int kind, int length, int course, int lastX, int lastY) {
            if (length <= 0) {
                return;
            }
            table.put(count, LEG, leg);
            table.put(count, KIND, kind);
            table.put(count, LENGTH, length);
            table.put(count, COURSE, course);
            table.put(count, FIRST_X, x);
            table.put(count, FIRST_Y, y);
            table.put(count, LAST_X, lastX);
            table.put(count, LAST_Y, lastY);
            count++;
            x = lastX;
            y = lastY;
        }

        private void drawArc(int row, int lastX, int lastY) {
            int steps = Math.abs(segments.get(row, Track.STEPS));
            int length = Compass.arcLength(segments.get(row, Track.RADIUS), steps);
            addPiece(segments.get(row, Track.LEG), ARC, length, segments.get(row, Track.COURSE), lastX, lastY);
        }

        /** The straight piece on the course of the segment, without what lies before it and the lead of the next turn. */
        private void drawRest(int row, int before) {
            int lead = segments.get(row, Track.NEXT_LEAD);
            int length = segments.get(row, Track.LENGTH);
            int lastX = Compass.before(segments.get(row, Track.FROM_X), segments.get(row, Track.TO_X), lead, length);
            int lastY = Compass.before(segments.get(row, Track.FROM_Y), segments.get(row, Track.TO_Y), lead, length);
            int course = segments.get(row, Track.COURSE);
            addPiece(segments.get(row, Track.LEG), STRAIGHT, length - before - lead, course, lastX, lastY);
        }

        /** The x of the point on a segment at a length behind its start. */
        private int onSegmentX(int row, int behind) {
            int length = segments.get(row, Track.LENGTH);
            return Compass.before(segments.get(row, Track.TO_X), segments.get(row, Track.FROM_X), behind, length);
        }

        private int onSegmentY(int row, int behind) {
            int length = segments.get(row, Track.LENGTH);
            return Compass.before(segments.get(row, Track.TO_Y), segments.get(row, Track.FROM_Y), behind, length);
        }

        private void drawArcOver(int row) {
            int abeam = segments.get(row, Track.STEPS) > 0 ? 6 : -6;
            int before = segments.get(row, Track.IN_COURSE) + abeam;
            int behind = segments.get(row, Track.COURSE) + abeam;
            int radius = segments.get(row, Track.RADIUS);
            int east = radius * (Compass.east(before) - Compass.east(behind)) / 1000;
            int north = radius * (Compass.north(before) - Compass.north(behind)) / 1000;
            arcX = segments.get(row, Track.FROM_X) + east;
            arcY = segments.get(row, Track.FROM_Y) + north;
            drawArc(row, arcX, arcY);
        }

        private void drawDirect(int row) {
            int toX = segments.get(row, Track.TO_X);
            int toY = segments.get(row, Track.TO_Y);
            int lead = segments.get(row, Track.NEXT_LEAD);
            int length = Compass.distance(arcX, arcY, toX, toY);
            int course = Compass.courseBetween(arcX, arcY, toX, toY);
            int lastX = Compass.before(arcX, toX, lead, length);
            int lastY = Compass.before(arcY, toY, lead, length);
            addPiece(segments.get(row, Track.LEG), STRAIGHT, length - lead, course, lastX, lastY);
        }

        /** From the end of the arc back to the segment, and along it. */
        private void drawRegaining(int row) {
            int regained = lengthToRegain(row);
            int toX = onSegmentX(row, regained);
            int toY = onSegmentY(row, regained);
            int length = Compass.distance(arcX, arcY, toX, toY);
            int course = Compass.courseBetween(arcX, arcY, toX, toY);
            addPiece(segments.get(row, Track.LEG), STRAIGHT, length, course, toX, toY);
            drawRest(row, regained);
        }

        private int lengthToRegain(int row) {
            int dx = arcX - segments.get(row, Track.FROM_X);
            int dy = arcY - segments.get(row, Track.FROM_Y);
            int east = Compass.east(segments.get(row, Track.COURSE));
            int north = Compass.north(segments.get(row, Track.COURSE));
            int along = (dx * east + dy * north) / 1000;
            int aside = Math.abs((dx * north - dy * east) / 1000);
            int most = segments.get(row, Track.LENGTH) - segments.get(row, Track.NEXT_LEAD);
            return Math.min(Math.max(along + 2 * aside, 0), most);
        }

        private void drawPattern(int leg) {
            int side = plan.legs.get(leg, Plan.SIDE);
            int radius = Compass.turnRadiusAt(settings.airSpeed(plan.legs.get(leg, Plan.LIMIT)));
            int entry = legs.get(leg, Path.ENTRY);
            int entryLength = 0;
            if (entry != DIRECT) {
                entryLength = side + Compass.arcLength(radius, entry == TEARDROP ? 14 : 18);
            }
            int circuits = plan.legs.get(leg, Plan.CIRCUITS) * (2 * side + Compass.arcLength(radius, 24));
            int course = plan.legs.get(leg, Plan.COURSE);
            int fixX = plan.legs.get(leg, Plan.X);
            int fixY = plan.legs.get(leg, Plan.Y);
            addPiece(leg, PATTERN, entryLength, course, fixX, fixY);
            addPiece(leg, PATTERN, circuits, course, fixX, fixY);
        }

        private void addToLeg(int leg, int piece) {
            int length = table.get(piece, LENGTH);
            int course = table.get(piece, COURSE);
            int limit = plan.legs.get(leg, Plan.LIMIT);
            boolean inPattern = table.get(piece, KIND) == PATTERN;
            int speed = Math.max(1, inPattern ? settings.airSpeed(limit) : settings.groundSpeed(limit, course));
            legs.put(leg, Path.LENGTH, legs.get(leg, Path.LENGTH) + length);
            legs.put(leg, Path.TIME, legs.get(leg, Path.TIME) + length * 360 / speed);
            legs.put(leg, Path.END_COURSE, course);
        }
    }

    /** The vertical profile: a climb forward, a descent backward, and the lesser one of both. */
    private static final class Profile {
        private final Plan plan;
        private final Settings settings;
        private final Table legs;

        Profile(Plan plan, Settings settings, Table legs) {
            this.plan = plan;
            this.settings = settings;
            this.legs = legs;
        }

        void calculate() {
            for (int leg = 0; leg < plan.count; leg++) {
                climb(leg);
            }
            for (int leg = plan.count - 1; leg >= 0; leg--) {
                descend(leg);
            }
            for (int leg = 0; leg < plan.count; leg++) {
                legs.put(leg, Path.ALTITUDE, Math.min(legs.get(leg, Path.CLIMB), legs.get(leg, Path.DESCENT)));
                legs.put(leg, Path.VIOLATION, violationOf(leg));
            }
        }

        private int heightBefore(int leg, int column) {
            return leg == 0 ? settings.departureAltitude : legs.get(leg - 1, column);
        }

        private void climb(int leg) {
            int rise = Settings.changeOver(legs.get(leg, Path.LENGTH), settings.climbGradient);
            int reached = heightBefore(leg, Path.CLIMB) + rise;
            int most = Math.min(settings.cruiseAltitude, plan.legs.get(leg, Plan.HIGH));
            legs.put(leg, Path.CLIMB, Math.min(most, reached));
        }

        private void descend(int leg) {
            int low = plan.legs.get(leg, Plan.LOW);
            int high = plan.legs.get(leg, Plan.HIGH);
            if (leg == plan.count - 1) {
                legs.put(leg, Path.DESCENT, Math.min(Math.max(settings.arrivalAltitude, low), high));
                return;
            }
            int drop = Settings.changeOver(legs.get(leg + 1, Path.LENGTH), settings.descentGradient);
            int least = Math.max(legs.get(leg + 1, Path.DESCENT) + drop, low);
            legs.put(leg, Path.DESCENT, Math.min(Math.min(least, high), settings.cruiseAltitude));
        }

        private int violationOf(int leg) {
            int height = legs.get(leg, Path.ALTITUDE);
            int drop = heightBefore(leg, Path.ALTITUDE) - height;
            long steepest = (long) legs.get(leg, Path.LENGTH) * settings.steepestGradient;
            int window = height < plan.legs.get(leg, Plan.LOW) ? 1 : 0;
            return drop * 1000L > steepest ? window + 2 : window;
        }

        int heightOn(int leg, int length) {
            int rest = legs.get(leg, Path.LENGTH) - length;
            int climbing = heightBefore(leg, Path.CLIMB) + Settings.changeOver(length, settings.climbGradient);
            int descending = legs.get(leg, Path.DESCENT) + Settings.changeOver(rest, settings.descentGradient);
            return Math.min(settings.cruiseAltitude, Math.min(climbing, descending));
        }

        /** The last of the legs whose altitude is the greatest one; NOTHING if there are no legs. */
        int lastHighestLeg() {
            int best = NOTHING;
            for (int leg = 0; leg < plan.count; leg++) {
                if (best == NOTHING || legs.get(leg, Path.ALTITUDE) >= legs.get(best, Path.ALTITUDE)) {
                    best = leg;
                }
            }
            return best;
        }

        /** The length that the descent from the end of a leg to the end of the next one needs. */
        int descentLength(int leg) {
            int drop = legs.get(leg, Path.ALTITUDE) - legs.get(leg + 1, Path.ALTITUDE);
            return Settings.lengthFor(drop, settings.descentGradient);
        }
    }

    /** How far the active plan has been flown, and where that is. Its path must be fresh when it is used. */
    private static final class Progress {
        private final Plan plan;
        private final Path path;
        int flown = 0;
        int x = 0;
        int y = 0;
        int course = 0;

        Progress(Plan plan, Path path) {
            this.plan = plan;
            this.path = path;
        }

        private int restOfLeg() {
            return path.legs.get(plan.current, Path.LENGTH) - flown;
        }

        void cutToLeg() {
            flown = Math.min(flown, path.legs.get(plan.current, Path.LENGTH));
        }

        void beginNextLeg() {
            plan.current++;
            flown = 0;
        }

        boolean waitsAtGap() {
            return plan.hasLeg(plan.current + 1) && restOfLeg() == 0 && path.gapBefore(plan.current + 1);
        }

        int advance(int length) {
            int left = length;
            for (int legs = 0; legs < MOST_LEGS; legs++) {
                int step = Math.min(left, restOfLeg());
                flown += step;
                left -= step;
                if (restOfLeg() > 0 || !plan.hasLeg(plan.current + 1) || path.gapBefore(plan.current + 1)) {
                    break;
                }
                beginNextLeg();
            }
            return length - left;
        }

        /** Finds the present position and course; false if there is none. */
        boolean locate() {
            if (plan.count == 0) {
                return false;
            }
            Table pieces = path.pieces.table;
            int before = 0;
            int present = NOTHING;
            for (int piece = 0; piece < path.pieces.count; piece++) {
                if (pieces.get(piece, Pieces.LEG) != plan.current) {
                    continue;
                }
                before += present == NOTHING ? 0 : pieces.get(present, Pieces.LENGTH);
                present = piece;
                if (before + pieces.get(piece, Pieces.LENGTH) > flown) {
                    break;
                }
            }
            return present == NOTHING ? locateAtEnd() : locateOn(present, flown - before);
        }

        private boolean locateOn(int piece, int length) {
            Table pieces = path.pieces.table;
            int whole = pieces.get(piece, Pieces.LENGTH);
            x = between(pieces.get(piece, Pieces.FIRST_X), pieces.get(piece, Pieces.LAST_X), length, whole);
            y = between(pieces.get(piece, Pieces.FIRST_Y), pieces.get(piece, Pieces.LAST_Y), length, whole);
            course = pieces.get(piece, Pieces.COURSE);
            return true;
        }

        private static int between(int first, int last, int length, int whole) {
            return whole == 0 ? last : (int) (first + ((long) last - first) * length / whole);
        }

        private boolean locateAtEnd() {
            int leg = plan.current;
            if (path.legs.get(leg, Path.ENDED) == 0) {
                return false;
            }
            int kind = plan.kind(leg);
            x = path.legs.get(leg, Path.END_X);
            y = path.legs.get(leg, Path.END_Y);
            course = kind == CF || kind == HF || kind == PP ? plan.legs.get(leg, Plan.COURSE) : 0;
            return true;
        }
    }
}
