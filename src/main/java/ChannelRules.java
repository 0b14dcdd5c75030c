/**
 * Ways in a harbour: routes of least time, slots on pieces, meeting and overtaking barred by
 * widths, one-way, night and wind rules, dangerous ones alone, closed spans that end slots, the
 * earliest slot, conflicts of rules that came later.
 */
public final class ChannelRules {
    public static final int NONE = -1;

    private static final int POINTS = 8;
    private static final int MOST_PIECES = 12;
    private static final int MOST_SHIPS = 12;
    private static final int MOST_SLOTS = 30;
    private static final int MOST_SPANS = 4;
    /** A route comes to no point twice, as every piece takes a minute at least. */
    private static final int MOST_STAYS = POINTS - 1;
    private static final int MOST_LENGTH = 100;
    private static final int MOST_WIDTH = 100;
    private static final int MOST_SPEED = 20;
    private static final int LAST_TIME = 100000;
    private static final int SEARCHED_TIME = 2880;
    /** Above every time that a route can take. */
    private static final int UNREACHED = 1000000;
    /** Longer than any search for a time. */
    private static final int FOREVER = 1000000;

    private static final int DAY = 1440;
    private static final int NIGHT_ENDS = 300;
    private static final int NIGHT_BEGINS = 1200;

    private static final int CLASS_DANGEROUS = 2;

    private static final int RULE_ONE_WAY = 0;
    private static final int RULE_NIGHT = 1;
    private static final int RULE_WIND = 2;
    private static final int RULE_MEETING_BARRED = 3;
    private static final int RULE_OVERTAKING_ALLOWED = 4;
    private static final int RULE_KINDS = 5;
    private static final int[] GREATEST_V = {2, 2, 100, 1, 1};
    private static final int FORWARD_ALONE = 1;
    private static final int BACKWARD_ALONE = 2;

    private static final int FREE = 0;
    private static final int BAR_ONE_WAY = 1;
    private static final int BAR_NIGHT = 2;
    private static final int BAR_WIND = 3;
    private static final int BAR_CLOSED = 4;
    private static final int BAR_DANGEROUS = 5;
    private static final int BAR_MEETING = 6;
    private static final int BAR_OVERTAKING = 7;

    private static final int CONFLICT_SIDES = 4;
    private static final int FIRST_SLOT_COUNT = 20;

    /** The row of the passage that is being weighed; the rows behind it are the slots. */
    private static final int PLAN = 0;

    private final Pieces pieces;
    private final Ships ships;
    private final Passages passages;
    /** From each point, the least time to the end of the route that is being planned. */
    private final int[] timeLeft;
    /** The sides of the conflict that was looked for last. */
    private final int[] foundConflict;
    private boolean windy;
    private int now;

    public ChannelRules() {
        pieces = new Pieces();
        ships = new Ships();
        passages = new Passages();
        timeLeft = new int[POINTS];
        foundConflict = new int[CONFLICT_SIDES];
        windy = false;
        now = 0;
    }

    public int piece(int a, int b, int length, int width)
            throws IllegalArgumentException, IllegalStateException {
        if (!isPoint(a) || !isPoint(b) || a == b) {
            throw new IllegalArgumentException("a piece joins two points of 0 to 7");
        }
        if (!isWithin(length, 1, MOST_LENGTH) || !isWithin(width, 1, MOST_WIDTH)) {
            throw new IllegalArgumentException("length and width are 1 to 100");
        }
        if (pieces.made >= MOST_PIECES) {
            throw new IllegalStateException("there are 12 pieces");
        }
        return pieces.add(a, b, length, width);
    }

    public boolean rule(int piece, int kind, int v) {
        if (!pieces.has(piece) || !isWithin(kind, 0, RULE_KINDS - 1)
                || !isWithin(v, 0, GREATEST_V[kind])) {
            return false;
        }
        pieces.setRule(piece, kind, v);
        return true;
    }

    public boolean wind(boolean is) {
        if (windy == is) {
            return false;
        }
        windy = is;
        return true;
    }

    public int ship(int width, int speed, int cls)
            throws IllegalArgumentException, IllegalStateException {
        if (!isWithin(width, 1, MOST_WIDTH) || !isWithin(speed, 1, MOST_SPEED)
                || !isWithin(cls, 0, CLASS_DANGEROUS)) {
            throw new IllegalArgumentException("width is 1 to 100, speed 1 to 20, class 0 to 2");
        }
        if (ships.made >= MOST_SHIPS) {
            throw new IllegalStateException("there are 12 ships");
        }
        return ships.add(width, speed, cls);
    }

    public int route(int ship, int from, int to, int what) throws IllegalArgumentException {
        if (!isVoyage(ship, from, to) || !isWithin(what, 0, 2)) {
            throw new IllegalArgumentException("no such ship, points or what");
        }
        if (!planRoute(ship, from, to)) {
            return NONE;
        }
        switch (what) {
            case 0:
                return timeLeft[from];
            case 1:
                return passages.pieceOf(PLAN, 0);
            default:
                return passages.stays[PLAN];
        }
    }

    public int ask(int ship, int from, int to, int time)
            throws IllegalArgumentException, IllegalStateException {
        if (!isVoyage(ship, from, to) || !isWithin(time, now, LAST_TIME)) {
            throw new IllegalArgumentException("no such ship or points, or not such a time");
        }
        if (passages.slots >= MOST_SLOTS) {
            throw new IllegalStateException("there are 30 slots");
        }
        if (!planRoute(ship, from, to)) {
            return 0;
        }
        passages.begin[PLAN] = time;
        int bar = firstBar(PLAN);
        return bar == FREE ? passages.giveSlot() : -1 - bar;
    }

    public int earliest(int ship, int from, int to, int time) throws IllegalArgumentException {
        if (!isVoyage(ship, from, to) || !isWithin(time, now, LAST_TIME)) {
            throw new IllegalArgumentException("no such ship or points, or not such a time");
        }
        if (!planRoute(ship, from, to)) {
            return NONE;
        }
        int last = Math.min(time + SEARCHED_TIME, LAST_TIME);
        int begin = time;
        while (begin <= last) {
            passages.begin[PLAN] = begin;
            int wait = planWait();
            if (wait <= 0) {
                return begin;
            }
            begin += wait;
        }
        return NONE;
    }

    public int change(int slot, int time) throws IllegalArgumentException {
        if (!passages.hasSlot(slot) || !isWithin(time, now, LAST_TIME)) {
            throw new IllegalArgumentException("no such slot, or not such a time");
        }
        if (!isStillToBegin(slot)) {
            return -1;
        }
        int before = passages.begin[slot];
        passages.begin[slot] = time;
        if (firstBar(slot) != FREE) {
            passages.begin[slot] = before;
            return 0;
        }
        return 1;
    }

    public boolean back(int slot) {
        if (!passages.hasSlot(slot) || !isStillToBegin(slot)) {
            return false;
        }
        passages.given[slot] = false;
        return true;
    }

    public int close(int piece, int from, int to)
            throws IllegalArgumentException, IllegalStateException {
        if (!pieces.has(piece) || from < now || from >= to || to > LAST_TIME) {
            throw new IllegalArgumentException("no such piece, or not such times");
        }
        if (pieces.spans[piece] >= MOST_SPANS) {
            throw new IllegalStateException("the piece has 4 closed spans");
        }
        pieces.addSpan(piece, from, to);
        return endSlotsOn(piece, from, to);
    }

    public boolean tick(int time) {
        if (!isWithin(time, now, LAST_TIME)) {
            return false;
        }
        now = time;
        return true;
    }

    public int conflict(int i, int side) throws IllegalArgumentException {
        if (!isWithin(side, 0, CONFLICT_SIDES - 1)) {
            throw new IllegalArgumentException("no such side");
        }
        if (i < 0 || i >= seekConflict(i)) {
            return NONE;
        }
        return foundConflict[side];
    }

    public int at(int slot, int i, int what) throws IndexOutOfBoundsException {
        if (!passages.hasSlot(slot) || i < 0 || i >= passages.stays[slot]
                || !isWithin(what, 0, 3)) {
            throw new IndexOutOfBoundsException("no such slot, stay or what");
        }
        switch (what) {
            case 0:
                return passages.pieceOf(slot, i);
            case 1:
                return passages.entersAt(slot, i);
            case 2:
                return passages.leavesAt(slot, i);
            default:
                return passages.isForward(slot, i) ? 1 : 0;
        }
    }

    public int count(int what) {
        switch (what) {
            case 0:
                return pieces.made;
            case 1:
                return ships.made;
            case 2:
                return passages.slots;
            case 3:
                return passages.givenSlots();
            case 4:
                return now;
            case 5:
                return seekConflict(NONE);
            case 6:
                return windy ? 1 : 0;
            default:
                return what < FIRST_SLOT_COUNT ? NONE : givenMark(what - FIRST_SLOT_COUNT);
        }
    }

    private int givenMark(int slot) {
        if (!passages.hasSlot(slot)) {
            return NONE;
        }
        return passages.given[slot] ? 1 : 0;
    }

    private static boolean isWithin(int value, int least, int most) {
        return value >= least && value <= most;
    }

    private static boolean isPoint(int point) {
        return isWithin(point, 0, POINTS - 1);
    }

    private boolean isVoyage(int ship, int from, int to) {
        return ships.has(ship) && isPoint(from) && isPoint(to);
    }

    private boolean isStillToBegin(int slot) {
        return passages.given[slot] && passages.begin[slot] > now;
    }

    private static boolean shareMinute(int from, int to, int otherFrom, int otherTo) {
        return from < otherTo && otherFrom < to;
    }

    /** Lays the route into the plan's row, beginning at 0; false if there is none. */
    private boolean planRoute(int ship, int from, int to) {
        passages.startPlan(ship);
        if (from == to) {
            return false;
        }
        measureTimeLeft(ship, to);
        int point = from;
        for (int i = 0; i < MOST_STAYS && point != to; i++) {
            int next = nextPiece(ship, point);
            if (next == NONE) {
                return false;
            }
            passages.addStay(next, pieces.first[next] == point, travelTime(ship, next));
            point = pieces.otherEnd(next, point);
        }
        return point == to;
    }

    private void measureTimeLeft(int ship, int to) {
        for (int point = 0; point < POINTS; point++) {
            timeLeft[point] = point == to ? 0 : UNREACHED;
        }
        // A route has a piece fewer than there are points, and each round settles one more.
        for (int round = 0; round < MOST_STAYS; round++) {
            for (int piece = 0; piece < pieces.made; piece++) {
                if (fits(ship, piece)) {
                    shortenBy(piece, travelTime(ship, piece));
                }
            }
        }
    }

    private void shortenBy(int piece, int time) {
        int a = pieces.first[piece];
        int b = pieces.second[piece];
        timeLeft[a] = Math.min(timeLeft[a], timeLeft[b] + time);
        timeLeft[b] = Math.min(timeLeft[b], timeLeft[a] + time);
    }

    /** The least piece by which the least time from a point is kept. */
    private int nextPiece(int ship, int point) {
        if (timeLeft[point] >= UNREACHED) {
            return NONE;
        }
        for (int piece = 0; piece < pieces.made; piece++) {
            int other = pieces.otherEnd(piece, point);
            if (other != NONE && fits(ship, piece)
                    && timeLeft[point] == travelTime(ship, piece) + timeLeft[other]) {
                return piece;
            }
        }
        return NONE;
    }

    private boolean fits(int ship, int piece) {
        return pieces.width[piece] >= ships.width[ship];
    }

    private int travelTime(int ship, int piece) {
        int speed = ships.speed[ship];
        if (speed < 1) {
            return UNREACHED;
        }
        return (pieces.length[piece] + speed - 1) / speed;
    }

    /** What bars the first stay of a row that is barred or in conflict: the least; else FREE. */
    private int firstBar(int row) {
        for (int i = 0; i < passages.stays[row]; i++) {
            int bar = barByPiece(row, i);
            if (bar == FREE) {
                bar = barBySlots(row, i);
            }
            if (bar != FREE) {
                return bar;
            }
        }
        return FREE;
    }

    private int barByPiece(int row, int i) {
        if (isAgainstOneWay(row, i)) {
            return BAR_ONE_WAY;
        }
        if (isBarredAtNight(row, i)) {
            return BAR_NIGHT;
        }
        if (isBarredInWind(row, i)) {
            return BAR_WIND;
        }
        int enters = passages.entersAt(row, i);
        int leaves = passages.leavesAt(row, i);
        int closed = pieces.closedFor(passages.pieceOf(row, i), enters, leaves);
        return closed > 0 ? BAR_CLOSED : FREE;
    }

    private boolean isAgainstOneWay(int row, int i) {
        int way = pieces.ruleOf(passages.pieceOf(row, i), RULE_ONE_WAY);
        return way == (passages.isForward(row, i) ? BACKWARD_ALONE : FORWARD_ALONE);
    }

    private boolean isBarredAtNight(int row, int i) {
        int fromClass = pieces.ruleOf(passages.pieceOf(row, i), RULE_NIGHT);
        if (fromClass == 0 || ships.cls[passages.ship[row]] < fromClass) {
            return false;
        }
        int enters = passages.entersAt(row, i);
        int minute = enters % DAY;
        int lastMinute = minute + passages.leavesAt(row, i) - enters - 1;
        return minute < NIGHT_ENDS || lastMinute >= NIGHT_BEGINS;
    }

    private boolean isBarredInWind(int row, int i) {
        int mostWidth = pieces.ruleOf(passages.pieceOf(row, i), RULE_WIND);
        return windy && ships.width[passages.ship[row]] > mostWidth;
    }

    private int barBySlots(int row, int i) {
        int least = FREE;
        for (int slot = 1; slot <= passages.slots; slot++) {
            if (slot != row && passages.given[slot]) {
                int bar = conflictWith(slot, row, i);
                if (bar != FREE && (least == FREE || bar < least)) {
                    least = bar;
                }
            }
        }
        return least;
    }

    /** How stay i of a row is in conflict with a slot's stay on the same piece, or FREE. */
    private int conflictWith(int slot, int row, int i) {
        int piece = passages.pieceOf(row, i);
        int j = passages.stayOn(slot, piece);
        if (j == NONE || !shareMinute(passages.entersAt(row, i), passages.leavesAt(row, i),
                passages.entersAt(slot, j), passages.leavesAt(slot, j))) {
            return FREE;
        }
        int a = passages.ship[row];
        int b = passages.ship[slot];
        if (ships.cls[a] == CLASS_DANGEROUS || ships.cls[b] == CLASS_DANGEROUS) {
            return BAR_DANGEROUS;
        }
        boolean tooWide = ships.width[a] + ships.width[b] > pieces.width[piece];
        if (passages.isForward(row, i) != passages.isForward(slot, j)) {
            boolean barred = pieces.ruleOf(piece, RULE_MEETING_BARRED) == 1;
            return barred || tooWide ? BAR_MEETING : FREE;
        }
        boolean allowed = pieces.ruleOf(piece, RULE_OVERTAKING_ALLOWED) == 1;
        return passages.isOvertaking(row, i, slot, j) && (!allowed || tooWide)
                ? BAR_OVERTAKING : FREE;
    }

    /**
     * By how many minutes the plan has to begin later until all that bars it now can be gone: 0
     * if it is FREE. It is not FREE at any minute before that, so a search may leave them out.
     */
    private int planWait() {
        int wait = 0;
        for (int i = 0; i < passages.stays[PLAN]; i++) {
            wait = Math.max(wait, Math.max(planWaitByPiece(i), planWaitBySlots(i)));
        }
        return wait;
    }

    private int planWaitByPiece(int i) {
        if (isAgainstOneWay(PLAN, i) || isBarredInWind(PLAN, i)) {
            return FOREVER;
        }
        int enters = passages.entersAt(PLAN, i);
        int leaves = passages.leavesAt(PLAN, i);
        int closed = pieces.closedFor(passages.pieceOf(PLAN, i), enters, leaves);
        return Math.max(closed, isBarredAtNight(PLAN, i) ? minutesToMorning(enters) : 0);
    }

    private static int minutesToMorning(int time) {
        return Math.floorMod(NIGHT_ENDS - time, DAY);
    }

    private int planWaitBySlots(int i) {
        int wait = 0;
        for (int slot = 1; slot <= passages.slots; slot++) {
            if (passages.given[slot]) {
                wait = Math.max(wait, planWaitFor(slot, i));
            }
        }
        return wait;
    }

    private int planWaitFor(int slot, int i) {
        int bar = conflictWith(slot, PLAN, i);
        int j = passages.stayOn(slot, passages.pieceOf(PLAN, i));
        if (bar == FREE || j == NONE) {
            return 0;
        }
        int enters = passages.entersAt(PLAN, i);
        if (bar != BAR_OVERTAKING) {
            return passages.leavesAt(slot, j) - enters;
        }
        // It may follow the other one as soon as it both enters and leaves behind that.
        int byEntering = passages.entersAt(slot, j) - enters;
        int byLeaving = passages.leavesAt(slot, j) - passages.leavesAt(PLAN, i);
        return Math.max(byEntering, byLeaving) + 1;
    }

    private int endSlotsOn(int piece, int from, int to) {
        int ended = 0;
        for (int slot = 1; slot <= passages.slots; slot++) {
            int i = passages.stayOn(slot, piece);
            if (passages.given[slot] && i != NONE && shareMinute(from, to,
                    passages.entersAt(slot, i), passages.leavesAt(slot, i))) {
                passages.given[slot] = false;
                ended++;
            }
        }
        return ended;
    }

    /** Counts the conflicts of given slots, and keeps the sides of the wanted one. */
    private int seekConflict(int wanted) {
        int seen = 0;
        for (int less = 1; less <= passages.slots; less++) {
            for (int greater = less + 1; greater <= passages.slots; greater++) {
                if (passages.given[less] && passages.given[greater]) {
                    seen = seekConflictOfPair(less, greater, seen, wanted);
                }
            }
        }
        return seen;
    }

    private int seekConflictOfPair(int less, int greater, int seenBefore, int wanted) {
        int seen = seenBefore;
        for (int i = 0; i < passages.stays[less]; i++) {
            int which = conflictWith(greater, less, i);
            if (which == FREE) {
                continue;
            }
            if (seen == wanted) {
                foundConflict[0] = less;
                foundConflict[1] = greater;
                foundConflict[2] = passages.pieceOf(less, i);
                foundConflict[3] = which;
            }
            seen++;
        }
        return seen;
    }

    /** The pieces, with their rules and closed spans. */
    private static final class Pieces {
        int made;
        final int[] first;
        final int[] second;
        final int[] length;
        final int[] width;
        final int[] rules;
        final int[] spans;
        final int[] spanFrom;
        final int[] spanTo;

        Pieces() {
            made = 0;
            first = new int[MOST_PIECES];
            second = new int[MOST_PIECES];
            length = new int[MOST_PIECES];
            width = new int[MOST_PIECES];
            rules = new int[MOST_PIECES * RULE_KINDS];
            spans = new int[MOST_PIECES];
            spanFrom = new int[MOST_PIECES * MOST_SPANS];
            spanTo = new int[MOST_PIECES * MOST_SPANS];
        }

        boolean has(int piece) {
            return isWithin(piece, 0, made - 1);
        }

        int add(int a, int b, int itsLength, int itsWidth) {
            int piece = made;
            first[piece] = a;
            second[piece] = b;
            length[piece] = itsLength;
            width[piece] = itsWidth;
            setRule(piece, RULE_WIND, MOST_WIDTH);
            made++;
            return piece;
        }

        /** The point to which a piece leads from one, or NONE if it does not touch that. */
        int otherEnd(int piece, int point) {
            if (first[piece] == point) {
                return second[piece];
            }
            return second[piece] == point ? first[piece] : NONE;
        }

        int ruleOf(int piece, int kind) {
            return rules[piece * RULE_KINDS + kind];
        }

        void setRule(int piece, int kind, int v) {
            rules[piece * RULE_KINDS + kind] = v;
        }

        void addSpan(int piece, int from, int to) {
            int place = piece * MOST_SPANS + spans[piece];
            spanFrom[place] = from;
            spanTo[place] = to;
            spans[piece]++;
        }

        /** From when a stay enters, how long spans with a minute of it last: 0 without one. */
        int closedFor(int piece, int enters, int leaves) {
            int time = 0;
            for (int i = 0; i < spans[piece]; i++) {
                int place = piece * MOST_SPANS + i;
                if (shareMinute(enters, leaves, spanFrom[place], spanTo[place])) {
                    time = Math.max(time, spanTo[place] - enters);
                }
            }
            return time;
        }
    }

    private static final class Ships {
        int made;
        final int[] width;
        final int[] speed;
        final int[] cls;

        Ships() {
            made = 0;
            width = new int[MOST_SHIPS];
            speed = new int[MOST_SHIPS];
            cls = new int[MOST_SHIPS];
        }

        boolean has(int ship) {
            return isWithin(ship, 0, made - 1);
        }

        int add(int itsWidth, int itsSpeed, int itsClass) {
            int ship = made;
            width[ship] = itsWidth;
            speed[ship] = itsSpeed;
            cls[ship] = itsClass;
            made++;
            return ship;
        }
    }

    /**
     * Passages by rows: row PLAN is the one being weighed, row n is slot n. Stays are held by
     * their distance from the beginning, so that another beginning moves all of them at once.
     */
    private static final class Passages {
        private static final int ROWS = MOST_SLOTS + 1;
        /** A stay leaves where the next one enters, and the last one has to leave, too. */
        private static final int OFFSETS = MOST_STAYS + 1;

        int slots;
        final boolean[] given;
        final int[] ship;
        final int[] begin;
        final int[] stays;
        final int[] pieceOfStay;
        final boolean[] forward;
        final int[] offset;
        /** For each row and piece one more than the stay there, 0 without. */
        final int[] stayMark;

        Passages() {
            slots = 0;
            given = new boolean[ROWS];
            ship = new int[ROWS];
            begin = new int[ROWS];
            stays = new int[ROWS];
            pieceOfStay = new int[ROWS * MOST_STAYS];
            forward = new boolean[ROWS * MOST_STAYS];
            offset = new int[ROWS * OFFSETS];
            stayMark = new int[ROWS * MOST_PIECES];
        }

        boolean hasSlot(int slot) {
            return isWithin(slot, 1, slots);
        }

        int givenSlots() {
            int sum = 0;
            for (int slot = 1; slot <= slots; slot++) {
                if (given[slot]) {
                    sum++;
                }
            }
            return sum;
        }

        int pieceOf(int row, int i) {
            return pieceOfStay[row * MOST_STAYS + i];
        }

        boolean isForward(int row, int i) {
            return forward[row * MOST_STAYS + i];
        }

        int entersAt(int row, int i) {
            return begin[row] + offset[row * OFFSETS + i];
        }

        int leavesAt(int row, int i) {
            return begin[row] + offset[row * OFFSETS + i + 1];
        }

        /** The stay of a row on a piece, or NONE; a route goes along a piece once at most. */
        int stayOn(int row, int piece) {
            return stayMark[row * MOST_PIECES + piece] - 1;
        }

        /** Of two stays in one direction: whether the first to enter is not the first to leave. */
        boolean isOvertaking(int row, int i, int otherRow, int j) {
            int enters = entersAt(row, i) - entersAt(otherRow, j);
            int leaves = leavesAt(row, i) - leavesAt(otherRow, j);
            boolean isAhead = enters < 0 && leaves < 0;
            boolean isBehind = enters > 0 && leaves > 0;
            return !isAhead && !isBehind;
        }

        void startPlan(int itsShip) {
            ship[PLAN] = itsShip;
            begin[PLAN] = 0;
            stays[PLAN] = 0;
            for (int piece = 0; piece < MOST_PIECES; piece++) {
                stayMark[PLAN * MOST_PIECES + piece] = 0;
            }
        }

        void addStay(int piece, boolean isForward, int time) {
            int i = stays[PLAN];
            pieceOfStay[PLAN * MOST_STAYS + i] = piece;
            forward[PLAN * MOST_STAYS + i] = isForward;
            offset[PLAN * OFFSETS + i + 1] = offset[PLAN * OFFSETS + i] + time;
            stayMark[PLAN * MOST_PIECES + piece] = i + 1;
            stays[PLAN]++;
        }

        /** Makes the plan the next slot. */
        int giveSlot() {
            slots++;
            int slot = slots;
            given[slot] = true;
            ship[slot] = ship[PLAN];
            begin[slot] = begin[PLAN];
            stays[slot] = stays[PLAN];
            for (int i = 0; i < stays[PLAN]; i++) {
                pieceOfStay[slot * MOST_STAYS + i] = pieceOf(PLAN, i);
                forward[slot * MOST_STAYS + i] = isForward(PLAN, i);
                offset[slot * OFFSETS + i + 1] = offset[PLAN * OFFSETS + i + 1];
            }
            for (int piece = 0; piece < MOST_PIECES; piece++) {
                stayMark[slot * MOST_PIECES + piece] = stayMark[PLAN * MOST_PIECES + piece];
            }
            return slot;
        }
    }
}
