import java.util.ArrayList;
import java.util.List;

/**
 * The document once more, written for the tests alone and in another way than the class: everything is worked out anew for each
 * answer, with lists and objects and without any thought of room or speed. ModelTest compares both.
 */
final class Model {
    static final int NONE = -1000000, BAD_INDEX = -1000001, BAD_VALUE = -1000002, BAD_STATE = -1000003, FULL = -1000004;
    private static final long[] QUARTERS = {0, 259, 500, 707, 866, 966, 1000, 966, 866, 707, 500, 259};
    private static final long[] LEADS = {0, 132, 268, 414, 577, 767, 1000, 1303, 1732};
    private static final List<String> KINDS = List.of("IF", "TF", "DF", "CF", "CA", "CI", "VM", "HF", "PP");

    record Point(long x, long y) {
        Point plus(Point other) {
            return new Point(x + other.x, y + other.y);
        }

        Point minus(Point other) {
            return new Point(x - other.x, y - other.y);
        }

        Point scaled(long factor, long divisor) {
            return new Point(x * factor / divisor, y * factor / divisor);
        }
    }

    record Leg(String kind, int fix, Point point, int course, int altitude, boolean right, int side, int circuits, int low, int high,
               int speed, boolean over, boolean gap) {
        static Leg plain(String kind) {
            return new Leg(kind, NONE, null, 0, 0, false, 0, 0, 0, 450, 999, false, false);
        }

        Leg withKind(String k) {
            return new Leg(k, fix, point, course, altitude, right, side, circuits, low, high, speed, over, gap);
        }

        Leg withGap(boolean g) {
            return new Leg(kind, fix, point, course, altitude, right, side, circuits, low, high, speed, over, g);
        }

        Leg withFix(int f, Point p) {
            return new Leg(kind, f, p, course, altitude, right, side, circuits, low, high, speed, over, gap);
        }

        Leg withCourse(int c) {
            return new Leg(kind, fix, point, c, altitude, right, side, circuits, low, high, speed, over, gap);
        }

        Leg withAltitude(int a) {
            return new Leg(kind, fix, point, course, a, right, side, circuits, low, high, speed, over, gap);
        }

        Leg withPattern(boolean r, int s, int n) {
            return new Leg(kind, fix, point, course, altitude, r, s, n, low, high, speed, over, gap);
        }

        Leg withWindow(int l, int h) {
            return new Leg(kind, fix, point, course, altitude, right, side, circuits, l, h, speed, over, gap);
        }

        Leg withSpeed(int s) {
            return new Leg(kind, fix, point, course, altitude, right, side, circuits, low, high, s, over, gap);
        }

        Leg withOver(boolean o) {
            return new Leg(kind, fix, point, course, altitude, right, side, circuits, low, high, speed, o, gap);
        }
    }

    record Plan(List<Leg> legs, int current, boolean restarted) {
    }

    /** A segment, a holding pattern (without a start) or a new start (with neither a start nor a pattern), in the order of the path. */
    record Event(int leg, boolean pattern, Point start, Point end, long length, int course) {
        boolean segment() {
            return start != null;
        }
    }

    record Turn(int kind, int steps, long radius, long lead, int from) {
    }

    record Piece(int leg, int kind, long length, int course, Point first, Point last) {
    }

    private final List<Point> fixes = new ArrayList<>();
    private final StringBuilder text = new StringBuilder();
    private final List<Plan> history = new ArrayList<>();
    private Plan active = new Plan(List.of(), 0, false);
    private Plan modified = null;
    private long flown = 0;
    private int windX = 0, windY = 0, cruise = 300, speed = 400, climb = 300, descent = 318, steepest = 500, departure = 0, arrival = 0;

    // ---- courses and points

    static long s(int k) {
        int c = Math.floorMod(k, 24);
        return c < 12 ? QUARTERS[c] : -QUARTERS[c - 12];
    }

    static Point direction(int c) {
        return new Point(s(c), s(c + 6));
    }

    static Point at(Point p, long d, int c) {
        return p.plus(direction(c).scaled(d, 1000));
    }

    static long distance(Point a, Point b) {
        Point d = b.minus(a);
        long square = d.x * d.x + d.y * d.y;
        long root = (long) Math.sqrt((double) square);
        while (root * root > square) {
            root--;
        }
        while ((root + 1) * (root + 1) <= square) {
            root++;
        }
        return root;
    }

    static int course(Point a, Point b) {
        Point d = b.minus(a);
        int best = 0;
        for (int c = 23; c >= 0; c--) {
            if (dot(d, direction(c)) >= dot(d, direction(best))) {
                best = c;
            }
        }
        return best;
    }

    static long dot(Point a, Point b) {
        return a.x * b.x + a.y * b.y;
    }

    static long cross(Point a, Point b) {
        return a.x * b.y - a.y * b.x;
    }

    static Point before(Point a, Point b, long e, long l) {
        return l == 0 ? b : e > l ? a : b.plus(a.minus(b).scaled(e, l));
    }

    static int entry(int a, int c, boolean right) {
        int r = Math.floorMod(right ? a - c : c - a, 24);
        return r <= 7 || r >= 20 ? 0 : r <= 11 ? 1 : 2;
    }

    // ---- the path

    final class Path {
        final List<Leg> legs;
        final List<Point> ends = new ArrayList<>();
        final List<Boolean> anew = new ArrayList<>();
        final List<Event> events = new ArrayList<>();
        final List<Turn> turns = new ArrayList<>();
        final List<Integer> entries = new ArrayList<>();
        final List<Piece> pieces = new ArrayList<>();
        Point pen = new Point(0, 0);

        Path(List<Leg> legs) {
            this.legs = legs;
            for (int i = 0; i < legs.size(); i++) {
                lay(i);
            }
            turn();
            for (int i = 0; i < events.size(); i++) {
                draw(i);
            }
        }

        void lay(int i) {
            Leg leg = legs.get(i);
            boolean starts = i == 0 || leg.kind.equals("IF") || leg.kind.equals("PP") || leg.gap || ends.get(i - 1) == null;
            anew.add(starts);
            boolean open = leg.kind.equals("CA") || leg.kind.equals("CI") || leg.kind.equals("VM");
            if (starts) {
                events.add(new Event(i, false, null, null, 0, 0));
                ends.add(open ? null : leg.point);
            } else {
                ends.add(extend(i, leg, ends.get(i - 1)));
            }
            if (leg.kind.equals("HF")) {
                events.add(new Event(i, true, null, null, 0, 0));
            }
        }

        void segment(int i, Point a, Point b, long length, int c) {
            if (length != 0) {
                events.add(new Event(i, false, a, b, length, c));
            }
        }

        Point extend(int i, Leg leg, Point p) {
            Point end = leg.point;
            switch (leg.kind) {
                case "CF":
                    if (legs.get(i - 1).kind.equals("CI")) {
                        segment(i, p, end, distance(p, end), leg.course);
                    } else {
                        Point b = at(end, 50, leg.course + 12);
                        segment(i, p, b, distance(p, b), course(p, b));
                        segment(i, b, end, 50, leg.course);
                    }
                    return end;
                case "CA":
                    long length = Math.max(10, (leg.altitude - climbedBefore(i)) * 1000 / climb);
                    segment(i, p, at(p, length, leg.course), length, leg.course);
                    return at(p, length, leg.course);
                case "CI":
                    long t = interception(i, leg, p);
                    segment(i, p, at(p, t > 0 ? t : 100, leg.course), t > 0 ? t : 100, leg.course);
                    return t > 0 ? at(p, t, leg.course) : null;
                case "VM":
                    segment(i, p, at(p, 100, leg.course), 100, leg.course);
                    return null;
                default:
                    segment(i, p, end, distance(p, end), course(p, end));
                    return end;
            }
        }

        int climbedBefore(int i) {
            for (int k = i - 1; k >= 0; k--) {
                if (legs.get(k).kind.equals("CA")) {
                    return legs.get(k).altitude;
                }
            }
            return departure;
        }

        long interception(int i, Leg leg, Point p) {
            if (i + 1 >= legs.size() || !legs.get(i + 1).kind.equals("CF") || legs.get(i + 1).gap) {
                return 0;
            }
            Point u = direction(leg.course);
            Point v = direction(legs.get(i + 1).course);
            Point w = legs.get(i + 1).point.minus(p);
            long d = cross(u, v);
            if (d == 0) {
                return 0;
            }
            long t = cross(w, v) * 1000 / d;
            long rest = cross(u, w) * 1000 / d;
            return t >= 1 && t <= 999 && rest >= 0 ? t : 0;
        }

        void turn() {
            int inLeg = -1;
            int inCourse = 0;
            long inLength = 0;
            for (int i = 0; i < legs.size(); i++) {
                entries.add(NONE);
            }
            for (Event e : events) {
                Leg leg = legs.get(e.leg);
                Turn turn = null;
                if (e.segment()) {
                    if (inLeg >= 0 && inCourse != e.course) {
                        turn = turnInto(e, inLeg, inCourse, inLength);
                    }
                    inCourse = e.course;
                    inLength = e.length;
                    inLeg = e.leg;
                } else if (e.pattern) {
                    entries.set(e.leg, inLeg < 0 ? 0 : entry(inCourse, leg.course, leg.right));
                    inCourse = leg.course;
                    inLength = leg.side;
                    inLeg = e.leg;
                } else {
                    inLeg = leg.kind.equals("PP") ? e.leg : -1;
                    inCourse = leg.course;
                    inLength = 0;
                }
                turns.add(turn);
            }
        }

        Turn turnInto(Event e, int inLeg, int a, long inLength) {
            Leg last = legs.get(inLeg);
            int n = Math.floorMod(e.course - a, 24);
            int d = Math.min(n, 24 - n);
            long g = Math.max(groundSpeed(last, a), groundSpeed(legs.get(e.leg), e.course));
            long r = Math.max(1, g * g / 3200);
            boolean over = inLeg != e.leg && (last.kind.equals("PP") || last.over);
            long m = d <= 8 ? r * LEADS[d] / 1000 : 0;
            boolean by = d <= 8 && !over && inLength >= 2 * m && e.length >= 2 * m;
            return new Turn(by ? 1 : 2, n <= 12 ? d : -d, r, by ? m : 0, a);
        }

        void add(int leg, int kind, long length, int c, Point last) {
            if (length > 0) {
                pieces.add(new Piece(leg, kind, length, c, pen, last));
                pen = last;
            }
        }

        void draw(int i) {
            Event e = events.get(i);
            if (e.segment()) {
                boolean joined = i + 1 < events.size() && events.get(i + 1).segment() && turns.get(i + 1) != null;
                drawSegment(e, turns.get(i), joined ? turns.get(i + 1).lead : 0);
            } else if (e.pattern) {
                Leg leg = legs.get(e.leg);
                long v = Math.min(speed, leg.speed);
                long r = Math.max(1, v * v / 3200);
                long[] lengths = {0, leg.side + r * 14 * 262 / 1000, leg.side + r * 18 * 262 / 1000};
                add(e.leg, 2, lengths[entries.get(e.leg)], leg.course, leg.point);
                add(e.leg, 2, leg.circuits * (2 * leg.side + r * 24 * 262 / 1000), leg.course, leg.point);
            } else if (ends.get(e.leg) != null) {
                pen = ends.get(e.leg);
            }
        }

        void drawSegment(Event e, Turn turn, long next) {
            Point k = e.start;
            Point n = e.end;
            Point last = before(k, n, next, e.length);
            if (turn == null) {
                add(e.leg, 0, e.length - next, e.course, last);
                return;
            }
            long arc = turn.radius * Math.abs(turn.steps) * 262 / 1000;
            if (turn.kind == 1) {
                add(e.leg, 1, arc, e.course, before(n, k, turn.lead, e.length));
                add(e.leg, 0, e.length - turn.lead - next, e.course, last);
                return;
            }
            int abeam = turn.steps > 0 ? 6 : 18;
            Point way = direction(turn.from + abeam).minus(direction(e.course + abeam)).scaled(turn.radius, 1000);
            Point end = k.plus(way);
            add(e.leg, 1, arc, e.course, end);
            String kind = legs.get(e.leg).kind;
            if (kind.equals("DF") || kind.equals("HF")) {
                long z = distance(end, n);
                add(e.leg, 0, z - next, course(end, n), before(end, n, next, z));
                return;
            }
            Point v = direction(e.course);
            long j = Math.min(Math.max(dot(way, v) / 1000 + 2 * Math.abs(cross(way, v) / 1000), 0), e.length - next);
            Point h = before(n, k, j, e.length);
            add(e.leg, 0, distance(end, h), course(end, h), h);
            add(e.leg, 0, e.length - j - next, e.course, last);
        }

        long length(int leg) {
            return pieces.stream().filter(p -> p.leg == leg).mapToLong(p -> p.length).sum();
        }

        long time(int leg) {
            Leg l = legs.get(leg);
            return pieces.stream().filter(p -> p.leg == leg)
                .mapToLong(p -> p.length * 360 / (p.kind == 2 ? Math.min(speed, l.speed) : groundSpeed(l, p.course))).sum();
        }

        int lastCourse(int leg) {
            return pieces.stream().filter(p -> p.leg == leg).map(p -> p.course).reduce((a, b) -> b).orElse(NONE);
        }

        Turn turnOf(int leg) {
            for (int i = 0; i < events.size(); i++) {
                if (events.get(i).segment() && events.get(i).leg == leg) {
                    return turns.get(i) == null ? new Turn(0, 0, 0, 0, 0) : turns.get(i);
                }
            }
            return new Turn(0, 0, 0, 0, 0);
        }

        boolean gap(int leg) {
            return leg > 0 && anew.get(leg);
        }

        long up(int leg) {
            long from = leg == 0 ? departure : up(leg - 1);
            return Math.min(Math.min(cruise, legs.get(leg).high), from + length(leg) * climb / 1000);
        }

        long down(int leg) {
            Leg l = legs.get(leg);
            if (leg == legs.size() - 1) {
                return Math.min(Math.max(arrival, l.low), l.high);
            }
            long high = down(leg + 1) + length(leg + 1) * descent / 1000;
            return Math.min(cruise, Math.min(l.high, Math.max(l.low, high)));
        }

        long height(int leg) {
            return leg < 0 ? departure : Math.min(up(leg), down(leg));
        }

        int violation(int leg) {
            boolean steep = (height(leg - 1) - height(leg)) * 1000 > length(leg) * steepest;
            return (height(leg) < legs.get(leg).low ? 1 : 0) + (steep ? 2 : 0);
        }

        long sum(int from, int to) {
            long sum = 0;
            for (int leg = from; leg <= to; leg++) {
                sum += length(leg);
            }
            return sum;
        }
    }

    private long groundSpeed(Leg leg, int c) {
        return Math.max(50, Math.min(speed, leg.speed) + (windX * s(c) + windY * s(c + 6)) / 1000);
    }

    // ---- the text

    private record Token(char type, String text, int place) {
    }

    private List<Token> tokens() {
        List<Token> tokens = new ArrayList<>();
        java.util.regex.Matcher m = java.util.regex.Pattern.compile("(?s)([A-Z]+)|([0-9]+)|([^ ])").matcher(text);
        while (m.find()) {
            tokens.add(new Token(m.group(1) != null ? 'w' : m.group(2) != null ? 'n' : 's', m.group(), m.start()));
        }
        tokens.add(new Token('e', "", text.length()));
        return tokens;
    }

    private static final class Fault extends RuntimeException {
        private static final long serialVersionUID = 1;
        private final int place;

        Fault(int place) {
            this.place = place;
        }
    }

    /** A parser by recursive descent over the list of tokens; throws the fault. */
    private final class Parser {
        private final List<Token> tokens = tokens();
        private int next = 0;

        private Token take(boolean allowed) {
            if (!allowed) {
                throw new Fault(tokens.get(next).place);
            }
            return tokens.get(next++);
        }

        private boolean is(String... words) {
            return List.of(words).contains(tokens.get(next).text);
        }

        private int number(int low, int high) {
            Token t = tokens.get(next);
            boolean fits = t.type == 'n' && t.text.length() <= 3;
            int value = fits ? Integer.parseInt(t.text) : 0;
            take(fits && value >= low && value <= high);
            return value;
        }

        List<Leg> route() {
            List<Leg> legs = new ArrayList<>();
            legs.add(leg());
            while (tokens.get(next).type != 'e') {
                take(is(";") && legs.size() < 12);
                legs.add(leg());
            }
            return legs;
        }

        private Leg leg() {
            String kind = take(KINDS.subList(0, 8).contains(tokens.get(next).text)).text;
            Leg leg = Leg.plain(kind);
            if (!kind.equals("CA") && !kind.equals("CI") && !kind.equals("VM")) {
                Token t = tokens.get(next);
                int fix = t.type == 'w' && t.text.length() == 1 ? t.text.charAt(0) - 'A' : 99;
                take(fix < fixes.size());
                leg = leg.withFix(fix, fixes.get(fix));
            }
            if (!kind.equals("IF") && !kind.equals("TF") && !kind.equals("DF")) {
                leg = leg.withCourse(number(0, 23));
            }
            if (kind.equals("CA")) {
                leg = leg.withAltitude(number(0, 450));
            }
            if (kind.equals("HF")) {
                boolean right = take(is("L", "R")).text.equals("R");
                int side = number(10, 200);
                leg = leg.withPattern(right, side, number(1, 9));
            }
            while (is("O", "A", "+", "-", "B", "S")) {
                leg = attribute(leg, take(true).text);
            }
            return leg;
        }

        private Leg attribute(Leg leg, String mark) {
            if (mark.equals("O")) {
                return leg.withOver(true);
            }
            int first = mark.equals("S") ? number(100, 500) : number(0, 450);
            return switch (mark) {
                case "A" -> leg.withWindow(first, first);
                case "+" -> leg.withWindow(first, 450);
                case "-" -> leg.withWindow(0, first);
                case "B" -> leg.withWindow(first, number(first, 450));
                default -> leg.withSpeed(first);
            };
        }
    }

    private List<Leg> read() {
        return new Parser().route();
    }

    int textFault() {
        try {
            read();
            return NONE;
        } catch (Fault fault) {
            return fault.place;
        }
    }

    int type(int code) {
        if (code < 0 || code > 255) {
            return BAD_VALUE;
        }
        if (text.length() == 200) {
            return FULL;
        }
        text.append((char) code);
        return text.length();
    }

    int clearText() {
        int length = text.length();
        text.setLength(0);
        return length;
    }

    // ---- fixes and settings

    private static boolean in(int v, int low, int high) {
        return low <= v && v <= high;
    }

    int addFix(int x, int y) {
        if (!in(x, -9999, 9999) || !in(y, -9999, 9999)) {
            return BAD_VALUE;
        }
        if (fixes.size() == 16) {
            return FULL;
        }
        fixes.add(new Point(x, y));
        return fixes.size() - 1;
    }

    private int changed(int answer) {
        if (!active.legs.isEmpty()) {
            flown = Math.min(flown, new Path(active.legs).length(active.current));
        }
        return answer;
    }

    int setWind(int east, int north) {
        if (!in(east, -99, 99) || !in(north, -99, 99)) {
            return BAD_VALUE;
        }
        windX = east;
        windY = north;
        return changed(1);
    }

    int setCruise(int a, int v) {
        if (!in(a, 10, 450) || !in(v, 100, 500)) {
            return BAD_VALUE;
        }
        int old = cruise;
        cruise = a;
        speed = v;
        return changed(old);
    }

    int setGradients(int c, int d, int s) {
        if (!in(c, 100, 900) || !in(d, 100, 900) || !in(s, 100, 900)) {
            return BAD_VALUE;
        }
        int old = climb;
        climb = c;
        descent = d;
        steepest = s;
        return changed(old);
    }

    int setEnds(int d, int a) {
        if (!in(d, 0, 450) || !in(a, 0, 450)) {
            return BAD_VALUE;
        }
        int old = departure;
        departure = d;
        arrival = a;
        return changed(old);
    }

    // ---- edits

    private Plan base() {
        return modified != null ? modified : active;
    }

    private int edit(List<Leg> legs, boolean restart) {
        Plan old = base();
        history.add(modified);
        if (history.size() > 6) {
            history.remove(0);
        }
        modified = new Plan(List.copyOf(legs), restart ? 0 : old.current, restart || (modified != null && old.restarted));
        return legs.size();
    }

    private int edit(int index, Leg leg, int answer) {
        List<Leg> legs = new ArrayList<>(base().legs);
        legs.set(index, leg);
        edit(legs, false);
        return answer;
    }

    int load() {
        return textFault() != NONE ? BAD_STATE : edit(read(), true);
    }

    int insert(int index) {
        List<Leg> legs = new ArrayList<>(base().legs);
        if (!in(index, 0, legs.size())) {
            return BAD_INDEX;
        }
        if (textFault() != NONE || (!legs.isEmpty() && index <= base().current)) {
            return BAD_STATE;
        }
        List<Leg> added = read();
        int fix = added.get(added.size() - 1).fix;
        int last = -1;
        for (int j = legs.size() - 1; j >= index; j--) {
            last = fix != NONE && legs.get(j).fix == fix ? j : last;
        }
        if (last >= 0) {
            legs.subList(index, last + 1).clear();
        } else if (index < legs.size()) {
            legs.set(index, legs.get(index).withGap(true));
        }
        legs.addAll(index, added);
        return legs.size() > 20 ? FULL : edit(legs, false);
    }

    int delete(int index) {
        List<Leg> legs = new ArrayList<>(base().legs);
        if (!in(index, 0, legs.size() - 1)) {
            return BAD_INDEX;
        }
        if (index <= base().current) {
            return BAD_STATE;
        }
        legs.remove(index);
        if (index < legs.size()) {
            legs.set(index, legs.get(index).withGap(true));
        }
        return edit(legs, false);
    }

    int closeGap(int index) {
        List<Leg> legs = base().legs;
        if (!in(index, 0, legs.size() - 1)) {
            return BAD_INDEX;
        }
        if (index <= base().current || !legs.get(index).gap) {
            return BAD_STATE;
        }
        edit(index, legs.get(index).withGap(false), 0);
        return gapCount(1);
    }

    int setWindow(int index, int low, int high) {
        List<Leg> legs = base().legs;
        if (!in(index, 0, legs.size() - 1)) {
            return BAD_INDEX;
        }
        if (!in(low, 0, 450) || !in(high, low, 450)) {
            return BAD_VALUE;
        }
        if (index < base().current) {
            return BAD_STATE;
        }
        edit(index, legs.get(index).withWindow(low, high), 0);
        return violationCount(1);
    }

    int setSpeedLimit(int index, int limit) {
        List<Leg> legs = base().legs;
        if (!in(index, 0, legs.size() - 1)) {
            return BAD_INDEX;
        }
        if (!in(limit, 100, 500) && limit != 999) {
            return BAD_VALUE;
        }
        return index < base().current ? BAD_STATE : edit(index, legs.get(index).withSpeed(limit), legs.get(index).speed);
    }

    int setFlyOver(int index, boolean over) {
        List<Leg> legs = base().legs;
        if (!in(index, 0, legs.size() - 1)) {
            return BAD_INDEX;
        }
        return index < base().current ? BAD_STATE : edit(index, legs.get(index).withOver(over), legs.get(index).over ? 1 : 0);
    }

    private List<Leg> direct(Plan plan, int index) {
        Piece here = present();
        List<Leg> legs = new ArrayList<>(plan.legs.subList(index, plan.legs.size()));
        Leg leg = legs.get(0).withGap(false);
        legs.set(0, leg.kind.equals("HF") ? leg : leg.withKind("DF"));
        legs.add(0, Leg.plain("PP").withFix(NONE, here.last).withCourse(here.course));
        return legs;
    }

    private boolean canGoDirect(Plan plan, int index) {
        return index >= plan.current && plan.legs.get(index).fix != NONE && present() != null;
    }

    int directTo(int index) {
        if (!in(index, 0, base().legs.size() - 1)) {
            return BAD_INDEX;
        }
        if (!canGoDirect(base(), index)) {
            return BAD_STATE;
        }
        List<Leg> legs = direct(base(), index);
        return legs.size() > 20 ? FULL : edit(legs, true);
    }

    int undo() {
        if (history.isEmpty()) {
            return BAD_STATE;
        }
        modified = history.remove(history.size() - 1);
        return history.size();
    }

    int execute() {
        if (modified == null) {
            return BAD_STATE;
        }
        flown = modified.restarted ? 0 : flown;
        active = new Plan(modified.legs, modified.current, false);
        cancel();
        return changed(active.legs.size());
    }

    int cancel() {
        if (modified == null) {
            return BAD_STATE;
        }
        modified = null;
        history.clear();
        return active.legs.size();
    }

    // ---- flying

    private void goTo(int leg) {
        active = new Plan(active.legs, leg, false);
        flown = 0;
    }

    int fly(int length) {
        if (!in(length, 0, 2000)) {
            return BAD_VALUE;
        }
        if (modified != null || active.legs.isEmpty()) {
            return BAD_STATE;
        }
        Path path = new Path(active.legs);
        long left = length;
        while (true) {
            long step = Math.min(left, path.length(active.current) - flown);
            flown += step;
            left -= step;
            int next = active.current + 1;
            if (flown < path.length(active.current) || next == active.legs.size() || path.gap(next)) {
                return (int) (length - left);
            }
            goTo(next);
        }
    }

    int resume() {
        int next = active.current + 1;
        if (modified != null || next >= active.legs.size()) {
            return BAD_STATE;
        }
        Path path = new Path(active.legs);
        if (flown != path.length(active.current) || !path.gap(next)) {
            return BAD_STATE;
        }
        goTo(next);
        return next;
    }

    int currentLeg() {
        return active.legs.isEmpty() ? NONE : active.current;
    }

    int flownLength() {
        return active.legs.isEmpty() ? NONE : (int) flown;
    }

    /** The present position as the last point of a piece, with the present course; null if there is none. */
    private Piece present() {
        if (active.legs.isEmpty()) {
            return null;
        }
        Path path = new Path(active.legs);
        Leg leg = active.legs.get(active.current);
        Piece found = null;
        long left = flown;
        for (Piece piece : path.pieces) {
            if (piece.leg == active.current) {
                if (found != null && left < found.length) {
                    break;
                }
                left -= found == null ? 0 : found.length;
                found = piece;
            }
        }
        if (found != null) {
            Point here = found.first.plus(found.last.minus(found.first).scaled(left, found.length));
            return new Piece(0, 0, 0, found.course, null, here);
        }
        Point end = path.ends.get(active.current);
        boolean own = List.of("CF", "HF", "PP").contains(leg.kind);
        return end == null ? null : new Piece(0, 0, 0, own ? leg.course : 0, null, end);
    }

    int positionX() {
        return present() == null ? NONE : (int) present().last.x;
    }

    int positionY() {
        return present() == null ? NONE : (int) present().last.y;
    }

    int presentCourse() {
        return present() == null ? NONE : present().course;
    }

    int directSaving(int index) {
        if (!in(index, 0, active.legs.size() - 1)) {
            return BAD_INDEX;
        }
        if (!canGoDirect(active, index)) {
            return BAD_STATE;
        }
        long planned = new Path(active.legs).sum(active.current, index) - flown;
        return (int) (planned - new Path(direct(active, index)).length(1));
    }

    // ---- answers about plans, legs and pieces

    private Plan plan(int plan) {
        return plan == 0 ? active : plan == 1 ? modified : null;
    }

    private Path path(int plan) {
        return plan(plan) == null ? null : new Path(plan(plan).legs);
    }

    private boolean noLeg(int plan, int leg) {
        return plan(plan) == null || !in(leg, 0, plan(plan).legs.size() - 1);
    }

    int legCount(int plan) {
        return plan(plan) == null ? BAD_INDEX : plan(plan).legs.size();
    }

    int legKind(int plan, int leg) {
        return noLeg(plan, leg) ? BAD_INDEX : KINDS.indexOf(plan(plan).legs.get(leg).kind);
    }

    int legFix(int plan, int leg) {
        return noLeg(plan, leg) ? BAD_INDEX : plan(plan).legs.get(leg).fix;
    }

    int hasGap(int plan, int leg) {
        return noLeg(plan, leg) ? BAD_INDEX : path(plan).gap(leg) ? 1 : 0;
    }

    int endX(int plan, int leg) {
        return noLeg(plan, leg) ? BAD_INDEX : path(plan).ends.get(leg) == null ? NONE : (int) path(plan).ends.get(leg).x;
    }

    int endY(int plan, int leg) {
        return noLeg(plan, leg) ? BAD_INDEX : path(plan).ends.get(leg) == null ? NONE : (int) path(plan).ends.get(leg).y;
    }

    int legCourse(int plan, int leg) {
        return noLeg(plan, leg) ? BAD_INDEX : path(plan).lastCourse(leg);
    }

    int legLength(int plan, int leg) {
        return noLeg(plan, leg) ? BAD_INDEX : (int) path(plan).length(leg);
    }

    int legTime(int plan, int leg) {
        return noLeg(plan, leg) ? BAD_INDEX : (int) path(plan).time(leg);
    }

    int lengthTo(int plan, int leg) {
        return noLeg(plan, leg) ? BAD_INDEX : (int) path(plan).sum(0, leg);
    }

    int turnKind(int plan, int leg) {
        return noLeg(plan, leg) ? BAD_INDEX : path(plan).turnOf(leg).kind;
    }

    int turnSteps(int plan, int leg) {
        return noLeg(plan, leg) ? BAD_INDEX : path(plan).turnOf(leg).steps;
    }

    int turnRadius(int plan, int leg) {
        return noLeg(plan, leg) ? BAD_INDEX : (int) path(plan).turnOf(leg).radius;
    }

    int turnLead(int plan, int leg) {
        return noLeg(plan, leg) ? BAD_INDEX : (int) path(plan).turnOf(leg).lead;
    }

    int holdEntry(int plan, int leg) {
        return noLeg(plan, leg) ? BAD_INDEX : path(plan).entries.get(leg);
    }

    int entryFor(int a, int c, boolean right) {
        return in(a, 0, 23) && in(c, 0, 23) ? entry(a, c, right) : BAD_VALUE;
    }

    int pieceCount(int plan) {
        return plan(plan) == null ? BAD_INDEX : path(plan).pieces.size();
    }

    private Piece piece(int plan, int piece) {
        return plan(plan) == null || !in(piece, 0, path(plan).pieces.size() - 1) ? null : path(plan).pieces.get(piece);
    }

    int pieceLeg(int plan, int piece) {
        return piece(plan, piece) == null ? BAD_INDEX : piece(plan, piece).leg;
    }

    int pieceKind(int plan, int piece) {
        return piece(plan, piece) == null ? BAD_INDEX : piece(plan, piece).kind;
    }

    int pieceLength(int plan, int piece) {
        return piece(plan, piece) == null ? BAD_INDEX : (int) piece(plan, piece).length;
    }

    int pieceCourse(int plan, int piece) {
        return piece(plan, piece) == null ? BAD_INDEX : piece(plan, piece).course;
    }

    int pieceX(int plan, int piece) {
        return piece(plan, piece) == null ? BAD_INDEX : (int) piece(plan, piece).last.x;
    }

    int pieceY(int plan, int piece) {
        return piece(plan, piece) == null ? BAD_INDEX : (int) piece(plan, piece).last.y;
    }

    int climbAltitude(int plan, int leg) {
        return noLeg(plan, leg) ? BAD_INDEX : (int) path(plan).up(leg);
    }

    int descentAltitude(int plan, int leg) {
        return noLeg(plan, leg) ? BAD_INDEX : (int) path(plan).down(leg);
    }

    int altitude(int plan, int leg) {
        return noLeg(plan, leg) ? BAD_INDEX : (int) path(plan).height(leg);
    }

    int altitudeAt(int plan, int leg, int length) {
        if (noLeg(plan, leg)) {
            return BAD_INDEX;
        }
        Path path = path(plan);
        if (length < 0 || length > path.length(leg)) {
            return BAD_VALUE;
        }
        long from = leg == 0 ? departure : path.up(leg - 1);
        long rest = path.length(leg) - length;
        return (int) Math.min(cruise, Math.min(from + (long) length * climb / 1000, path.down(leg) + rest * descent / 1000));
    }

    int violation(int plan, int leg) {
        return noLeg(plan, leg) ? BAD_INDEX : path(plan).violation(leg);
    }

    int topOfDescent(int plan) {
        if (plan(plan) == null) {
            return BAD_INDEX;
        }
        Path path = path(plan);
        int top = -1;
        for (int leg = 0; leg < path.legs.size(); leg++) {
            top = top < 0 || path.height(leg) >= path.height(top) ? leg : top;
        }
        if (top == path.legs.size() - 1) {
            return NONE;
        }
        long h = (path.height(top) - path.height(top + 1)) * 1000 / descent;
        return (int) (path.sum(0, top) + Math.max(0, path.length(top + 1) - h));
    }

    int gapCount(int plan) {
        int count = 0;
        for (int leg = 0; leg < legCount(plan); leg++) {
            count += hasGap(plan, leg);
        }
        return plan(plan) == null ? BAD_INDEX : count;
    }

    int totalLength(int plan) {
        return plan(plan) == null ? BAD_INDEX : (int) path(plan).sum(0, legCount(plan) - 1);
    }

    int totalTime(int plan) {
        int time = 0;
        for (int leg = 0; leg < legCount(plan); leg++) {
            time += legTime(plan, leg);
        }
        return plan(plan) == null ? BAD_INDEX : time;
    }

    int violationCount(int plan) {
        int count = 0;
        for (int leg = 0; leg < legCount(plan); leg++) {
            count += violation(plan, leg) != 0 ? 1 : 0;
        }
        return plan(plan) == null ? BAD_INDEX : count;
    }
}
