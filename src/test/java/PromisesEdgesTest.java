/**
 * The sentences of the promises that name an edge, in the document's order: each has a method of
 * its own, with the sentence above it, and stands on both sides of that edge. The methods of
 * promise n begin with pn.
 */
public final class PromisesEdgesTest {
    private static final int NONE = ChannelRules.NONE;
    private static final int ARGUMENT = Check.ARGUMENT;
    private static final int STATE = Check.STATE;
    private static final int INDEX = Check.INDEX;
    private static final int LEAST = Integer.MIN_VALUE;
    private static final int MOST = Integer.MAX_VALUE;

    private PromisesEdgesTest() {
    }

    public static void main(String[] args) {
        promisesOfMaking();
        promisesOfSlots();
        promisesOfTellingBack();
        Check.end();
    }

    private static void promisesOfMaking() {
        p1NewObject();
        p2Piece();
        p3RuleAnswers();
        p3RulesAtFirst();
        p3RulesOfEachPiece();
        p4Wind();
        p5Ship();
        p6RouteWhat();
        p6RouteNone();
        p6RouteWrong();
    }

    private static void promisesOfSlots() {
        p7AskNumbers();
        p7AskWithoutRoute();
        p7AskEachBar();
        p7AskLeastOfStay();
        p7AskFirstStay();
        p7AskWrong();
        p7AskTimes();
        p7AskFull();
        p8EarliestFirst();
        p8EarliestWithin();
        p8EarliestLastTime();
        p8EarliestByDay();
        p8EarliestNone();
        p8EarliestWrong();
        p8EarliestFull();
        p9ChangeMoves();
        p9ChangeNotFree();
        p9ChangeSameStays();
        p9ChangeEnded();
        p9ChangeUnderWay();
        p9ChangeWrong();
        p10BackOnce();
        p10BackNone();
        p10BackUnderWay();
    }

    private static void promisesOfTellingBack() {
        p11CloseMinutes();
        p11CloseCounts();
        p11CloseUnderWay();
        p11CloseWrong();
        p11CloseTimes();
        p11CloseFull();
        p12Tick();
        p13ConflictNone();
        p13ConflictSides();
        p13ConflictOrder();
        p13ConflictOfGiven();
        p13ConflictOnPieces();
        p14AtOfStays();
        p14AtWrong();
        p14AtFull();
        p15CountOfNew();
        p15CountOfSlots();
        p15CountOther();
    }

    /** "No pieces, ships." */
    private static void p1NewObject() {
        ChannelRules x = new ChannelRules();
        Check.due("no pieces", 0, () -> x.count(0));
        Check.due("no ships", 0, () -> x.count(1));
        Check.due("no rule of a piece", false, () -> x.rule(0, 0, 0));
        Check.due("no span of a piece", ARGUMENT, () -> x.close(0, 0, 1));
        Check.due("no route of a ship", ARGUMENT, () -> x.route(0, 0, 1, 0));
        Check.due("no slot of a ship", ARGUMENT, () -> x.ask(0, 0, 1, 0));
        Check.due("no earliest of a ship", ARGUMENT, () -> x.earliest(0, 0, 1, 0));
        Check.due("no slot to be changed", ARGUMENT, () -> x.change(1, 0));
        Check.due("no slot to be taken back", false, () -> x.back(1));
        Check.due("no stays", INDEX, () -> x.at(1, 0, 0));
        Check.due("no conflicts", NONE, () -> x.conflict(0, 0));
        Check.due("the first ship", 0, () -> x.ship(5, 5, 0));
        Check.due("no pieces for its route", NONE, () -> x.route(0, 0, 1, 0));
        Check.due("NONE", -1, () -> ChannelRules.NONE);
    }

    /** "IllegalArgumentException if there are no such points, they are the same, .." */
    private static void p2Piece() {
        ChannelRules x = new ChannelRules();
        for (int p = 0; p < 8; p++) {
            int point = p;
            Check.due("a piece to itself", ARGUMENT, () -> x.piece(point, point, 5, 5));
        }
        int[] wrong = {LEAST, -1, 8, 9, MOST};
        for (int w : wrong) {
            Check.due("no first point " + w, ARGUMENT, () -> x.piece(w, 1, 5, 5));
            Check.due("no second point " + w, ARGUMENT, () -> x.piece(1, w, 5, 5));
            Check.due("no points " + w, ARGUMENT, () -> x.piece(w, w, 5, 5));
        }
        int[] wrongSize = {LEAST, -1, 0, 101, MOST};
        for (int w : wrongSize) {
            Check.due("no length " + w, ARGUMENT, () -> x.piece(0, 1, w, 5));
            Check.due("no width " + w, ARGUMENT, () -> x.piece(0, 1, 5, w));
        }
        Check.due("its number", 0, () -> x.piece(0, 1, 5, 5));
        Check.due("the same points again", 1, () -> x.piece(0, 1, 5, 5));
        Check.due("the same points the other way", 2, () -> x.piece(1, 0, 5, 5));
    }

    /** "True; false if there is no such piece, kind or v." */
    private static void p3RuleAnswers() {
        ChannelRules x = Harbours.two();
        int[] greatest = {2, 2, 100, 1, 1};
        for (int k = 0; k < 5; k++) {
            int kind = k;
            for (int v = 0; v <= greatest[k]; v++) {
                int value = v;
                Check.due("kind " + k + ", v " + v, true, () -> x.rule(1, kind, value));
            }
            int[] wrong = {LEAST, -1, greatest[k] + 1, MOST};
            for (int v : wrong) {
                Check.due("kind " + k + ", v " + v, false, () -> x.rule(1, kind, v));
            }
            int[] noPiece = {LEAST, -1, 2, 11, 12, MOST};
            for (int piece : noPiece) {
                Check.due("no piece " + piece, false, () -> x.rule(piece, kind, 0));
            }
        }
        int[] noKind = {LEAST, -1, 5, 6, MOST};
        for (int kind : noKind) {
            Check.due("no kind " + kind, false, () -> x.rule(0, kind, 0));
        }
    }

    /** "At first 0, but 100 in WIND." */
    private static void p3RulesAtFirst() {
        ChannelRules x = new ChannelRules();
        x.piece(0, 1, 10, 100);
        x.ship(100, 1, 2);
        x.ship(50, 1, 0);
        x.wind(true);
        Check.due("no one way, night or wind rule forward", 1, () -> x.ask(0, 0, 1, 0));
        Check.due("nor backward", 2, () -> x.ask(0, 1, 0, 10));
        x.ask(1, 0, 1, 100);
        Check.due("meeting is not barred", 4, () -> x.ask(1, 1, 0, 100));
        Check.due("overtaking is not allowed", -8, () -> x.ask(1, 0, 1, 100));
    }

    /** "A rule of a piece": of that one alone. */
    private static void p3RulesOfEachPiece() {
        ChannelRules x = new ChannelRules();
        for (int piece = 0; piece < 5; piece++) {
            x.piece(piece, piece + 1, 10, 100);
        }
        x.ship(60, 1, 1);
        x.wind(true);
        x.rule(0, 0, 2);
        x.rule(1, 1, 1);
        x.rule(2, 2, 59);
        Check.due("one way on piece 0", -2, () -> x.ask(0, 0, 1, 100));
        Check.due("night on piece 1", -3, () -> x.ask(0, 1, 2, 100));
        Check.due("wind on piece 2", -4, () -> x.ask(0, 2, 3, 100));
        Check.due("none on piece 3", 1, () -> x.ask(0, 3, 4, 100));
        Check.due("none on piece 4", 2, () -> x.ask(0, 4, 5, 100));
    }

    /** "There is WIND, or none any more: true; false if it is so." */
    private static void p4Wind() {
        ChannelRules x = new ChannelRules();
        Check.due("none at first", false, () -> x.wind(false));
        Check.due("none yet", 0, () -> x.count(6));
        Check.due("it comes", true, () -> x.wind(true));
        Check.due("it is so", false, () -> x.wind(true));
        Check.due("it is there", 1, () -> x.count(6));
        Check.due("it goes", true, () -> x.wind(false));
        Check.due("it is gone", false, () -> x.wind(false));
        Check.due("none any more", 0, () -> x.count(6));
    }

    /** "IllegalArgumentException if its numbers can't be" */
    private static void p5Ship() {
        ChannelRules x = new ChannelRules();
        int[] wrong = {LEAST, -1, MOST};
        for (int w : wrong) {
            Check.due("no width " + w, ARGUMENT, () -> x.ship(w, 5, 0));
            Check.due("no speed " + w, ARGUMENT, () -> x.ship(5, w, 0));
            Check.due("no class " + w, ARGUMENT, () -> x.ship(5, 5, w));
        }
        Check.due("none from wrong ones", 0, () -> x.count(1));
        Check.due("its number", 0, () -> x.ship(5, 5, 0));
        Check.due("the same again", 1, () -> x.ship(5, 5, 0));
    }

    /** "what 0: its time, 1: its first piece, 2: its pieces" */
    private static void p6RouteWhat() {
        ChannelRules x = new ChannelRules();
        x.piece(3, 4, 9, 20);
        x.piece(5, 4, 6, 20);
        x.ship(8, 1, 0);
        Check.due("its time", 15, () -> x.route(0, 5, 3, 0));
        Check.due("its first piece", 1, () -> x.route(0, 5, 3, 1));
        Check.due("its pieces", 2, () -> x.route(0, 5, 3, 2));
        Check.due("what -1", ARGUMENT, () -> x.route(0, 5, 3, -1));
        Check.due("what 3", ARGUMENT, () -> x.route(0, 5, 3, 3));
    }

    /** "NONE without a route (also from a point to itself)" */
    private static void p6RouteNone() {
        ChannelRules x = Harbours.two();
        x.ship(21, 1, 0);
        for (int w = 0; w <= 2; w++) {
            int what = w;
            Check.due("no piece leads there", NONE, () -> x.route(0, 0, 7, what));
            Check.due("no piece leads from there", NONE, () -> x.route(0, 7, 0, what));
            Check.due("too wide", NONE, () -> x.route(1, 0, 2, what));
            Check.due("to itself", NONE, () -> x.route(0, 1, 1, what));
            Check.due("to itself, no piece there", NONE, () -> x.route(0, 6, 6, what));
        }
    }

    /** "IllegalArgumentException if there is no such ship, points or what." */
    private static void p6RouteWrong() {
        ChannelRules x = Harbours.one();
        int[] noShip = {LEAST, -1, 1, 11, 12, MOST};
        for (int ship : noShip) {
            Check.due("no ship " + ship, ARGUMENT, () -> x.route(ship, 0, 1, 0));
        }
        int[] noPoint = {LEAST, -1, 8, MOST};
        for (int point : noPoint) {
            Check.due("from no point " + point, ARGUMENT, () -> x.route(0, point, 1, 0));
            Check.due("to no point " + point, ARGUMENT, () -> x.route(0, 0, point, 0));
            Check.due("from no point to itself", ARGUMENT, () -> x.route(0, point, point, 0));
        }
        int[] noWhat = {LEAST, -1, 3, MOST};
        for (int what : noWhat) {
            Check.due("no what " + what, ARGUMENT, () -> x.route(0, 0, 1, what));
            Check.due("no what without a route", ARGUMENT, () -> x.route(0, 1, 1, what));
        }
    }

    /** "its number, if the passage is FREE": refused ones take none. */
    private static void p7AskNumbers() {
        ChannelRules x = Harbours.one();
        Check.due("the first", 1, () -> x.ask(0, 0, 1, 100));
        Check.due("a refused one", -8, () -> x.ask(0, 0, 1, 100));
        Check.due("one without a route", 0, () -> x.ask(0, 0, 3, 100));
        Check.due("the second", 2, () -> x.ask(0, 0, 1, 101));
        x.back(2);
        Check.due("the third, though the second is ENDED", 3, () -> x.ask(0, 0, 1, 101));
    }

    /** "0 without a route" */
    private static void p7AskWithoutRoute() {
        ChannelRules x = Harbours.one();
        x.ship(21, 1, 0);
        x.close(0, 0, 100000);
        Check.due("to itself", 0, () -> x.ask(0, 0, 0, 0));
        Check.due("no piece leads there", 0, () -> x.ask(0, 0, 2, 0));
        Check.due("too wide", 0, () -> x.ask(1, 0, 1, 0));
        Check.due("a way that is closed is one", -5, () -> x.ask(0, 0, 1, 0));
        x.rule(0, 0, 2);
        Check.due("a way in the other direction is one", -2, () -> x.ask(0, 0, 1, 0));
        Check.due("no slots from them", 0, () -> x.count(2));
    }

    /** "else -1 less what bars it: 1 to 7" */
    private static void p7AskEachBar() {
        ChannelRules x = new ChannelRules();
        for (int piece = 0; piece < 7; piece++) {
            x.piece(piece, piece + 1, 10, 100);
        }
        x.ship(60, 1, 1);
        x.ship(10, 1, 2);
        x.wind(true);
        x.rule(0, 0, 2);
        x.rule(1, 1, 1);
        x.rule(2, 2, 59);
        x.close(3, 100, 101);
        x.ask(1, 4, 5, 100);
        x.ask(0, 6, 5, 100);
        x.ask(0, 6, 7, 100);
        for (int p = 0; p < 7; p++) {
            int point = p;
            Check.due("bar " + (p + 1), -2 - p, () -> x.ask(0, point, point + 1, 100));
        }
    }

    /** "the least of the first stay with one": all bars at once, then without the least ones. */
    private static void p7AskLeastOfStay() {
        ChannelRules x = barredByAll();
        Check.due("one way of all", -2, () -> x.ask(0, 0, 1, 100));
        x.rule(0, 0, 0);
        Check.due("night of the rest", -3, () -> x.ask(0, 0, 1, 100));
        x.rule(0, 1, 0);
        Check.due("wind of the rest", -4, () -> x.ask(0, 0, 1, 100));
        x.wind(false);
        Check.due("dangerous of the rest", -6, () -> x.ask(0, 0, 1, 100));
        Check.due("a span", 0, () -> x.close(0, 199, 200));
        Check.due("closed of the rest", -5, () -> x.ask(0, 0, 1, 100));
        Check.due("dangerous ahead of the span", -6, () -> x.ask(0, 0, 1, 99));
        x.back(1);
        Check.due("meeting of the rest", -7, () -> x.ask(0, 0, 1, 99));
        x.back(2);
        Check.due("overtaking of the rest", -8, () -> x.ask(0, 0, 1, 99));
        x.back(3);
        Check.due("none is left", 4, () -> x.ask(0, 0, 1, 99));
    }

    /** A slow ship 0; a dangerous slot, one that it would meet, and one that would overtake it. */
    private static ChannelRules barredByAll() {
        ChannelRules x = new ChannelRules();
        x.piece(0, 1, 100, 100);
        x.ship(60, 1, 1);
        x.ship(10, 20, 2);
        x.ship(50, 20, 0);
        x.ask(1, 0, 1, 140);
        x.ask(2, 1, 0, 120);
        x.ask(2, 0, 1, 110);
        x.rule(0, 0, 2);
        x.rule(0, 1, 1);
        x.rule(0, 2, 59);
        x.wind(true);
        return x;
    }

    /** "of the first stay with one", though a later stay has a less one. */
    private static void p7AskFirstStay() {
        ChannelRules x = Harbours.two();
        x.ask(0, 0, 1, 100);
        x.rule(1, 0, 2);
        Check.due("overtaking, then one way", -8, () -> x.ask(0, 0, 2, 100));
        Check.due("the first stay is free", -2, () -> x.ask(0, 0, 2, 101));
        Check.due("the first stay of the way back", 2, () -> x.ask(0, 2, 0, 200));
        x.rule(0, 0, 1);
        Check.due("of the way back the second alone", -2, () -> x.ask(0, 2, 0, 300));
    }

    /** "IllegalArgumentException if there is no such ship or points" */
    private static void p7AskWrong() {
        ChannelRules x = Harbours.one();
        int[] noShip = {LEAST, -1, 1, 11, 12, MOST};
        for (int ship : noShip) {
            Check.due("no ship " + ship, ARGUMENT, () -> x.ask(ship, 0, 1, 0));
        }
        int[] noPoint = {LEAST, -1, 8, MOST};
        for (int point : noPoint) {
            Check.due("from no point " + point, ARGUMENT, () -> x.ask(0, point, 1, 0));
            Check.due("to no point " + point, ARGUMENT, () -> x.ask(0, 0, point, 0));
        }
    }

    /** "or the time is not NOW .. 100000" */
    private static void p7AskTimes() {
        ChannelRules x = Harbours.one();
        x.tick(500);
        int[] wrong = {LEAST, -1, 0, 499, 100001, MOST};
        for (int time : wrong) {
            Check.due("no time " + time, ARGUMENT, () -> x.ask(0, 0, 1, time));
            Check.due("no time without a route", ARGUMENT, () -> x.ask(0, 1, 1, time));
        }
        Check.due("at NOW", 1, () -> x.ask(0, 0, 1, 500));
        Check.due("at 100000", 2, () -> x.ask(0, 0, 1, 100000));
        x.tick(100000);
        Check.due("NOW is 100000", 3, () -> x.ask(0, 1, 0, 100000));
        Check.due("a minute before it", ARGUMENT, () -> x.ask(0, 1, 0, 99999));
    }

    /** "IllegalStateException if there are 30." */
    private static void p7AskFull() {
        ChannelRules x = Harbours.one();
        for (int s = 1; s <= 30; s++) {
            int slot = s;
            Check.due("slot " + s, slot, () -> x.ask(0, 0, 1, 100 * slot));
        }
        Check.due("a 31st that is free", STATE, () -> x.ask(0, 0, 1, 50000));
        Check.due("a 31st that is barred", STATE, () -> x.ask(0, 0, 1, 100));
        Check.due("a 31st without a route", STATE, () -> x.ask(0, 0, 3, 100));
        Check.due("a 31st at a wrong time", ARGUMENT, () -> x.ask(0, 0, 1, 100001));
    }

    /** "The least time from one on": that one itself first. */
    private static void p8EarliestFirst() {
        ChannelRules x = Harbours.one();
        Check.due("at once", 0, () -> x.earliest(0, 0, 1, 0));
        x.rule(0, 3, 1);
        x.ask(0, 0, 1, 100);
        Check.due("just ahead of the other", 90, () -> x.earliest(0, 1, 0, 90));
        Check.due("a minute too late for that", 110, () -> x.earliest(0, 1, 0, 91));
        Check.due("just behind the other", 110, () -> x.earliest(0, 1, 0, 110));
        x.ask(0, 0, 1, 119);
        Check.due("a gap a minute too short", 129, () -> x.earliest(0, 1, 0, 91));
        x.change(2, 120);
        Check.due("a gap of its own length", 110, () -> x.earliest(0, 1, 0, 91));
    }

    /** "within 2880" */
    private static void p8EarliestWithin() {
        ChannelRules x = Harbours.one();
        x.close(0, 100, 5000);
        Check.due("2879 later", 5000, () -> x.earliest(0, 0, 1, 2121));
        Check.due("2880 later", 5000, () -> x.earliest(0, 0, 1, 2120));
        Check.due("2881 later", NONE, () -> x.earliest(0, 0, 1, 2119));
        Check.due("long before", NONE, () -> x.earliest(0, 0, 1, 91));
        Check.due("ahead of the span", 90, () -> x.earliest(0, 0, 1, 90));
    }

    /** "TIME is 0 .. 100000": none later is answered. */
    private static void p8EarliestLastTime() {
        ChannelRules x = Harbours.one();
        x.close(0, 99950, 100000);
        Check.due("as the span ends, the last time", 100000, () -> x.earliest(0, 0, 1, 99950));
        x.ask(0, 0, 1, 100000);
        Check.due("none behind the last time", NONE, () -> x.earliest(0, 0, 1, 99950));
        Check.due("at the last time", NONE, () -> x.earliest(0, 0, 1, 100000));
        Check.due("ahead of the span", 99940, () -> x.earliest(0, 0, 1, 99940));
        x.tick(100000);
        Check.due("NOW is the last time", NONE, () -> x.earliest(0, 1, 1, 100000));
    }

    /** Of a night it is the morning, or the next one that is FREE. */
    private static void p8EarliestByDay() {
        ChannelRules x = new ChannelRules();
        x.piece(0, 1, 10, 20);
        x.ship(8, 1, 1);
        x.rule(0, 1, 1);
        int[][] askedDue = {
            {0, 300}, {299, 300}, {300, 300}, {1190, 1190}, {1191, 1740}, {1199, 1740},
            {1439, 1740}, {1440, 1740}, {1739, 1740}, {1741, 1741}, {99111, 99660}, {99660, 99660},
        };
        for (int[] a : askedDue) {
            Check.due("by day from " + a[0], a[1], () -> x.earliest(0, 0, 1, a[0]));
        }
        x.close(0, 1000, 1300);
        Check.due("the span ends at night", 1740, () -> x.earliest(0, 0, 1, 991));
        x.close(0, 1740, 2631);
        Check.due("closed all day", 3180, () -> x.earliest(0, 0, 1, 991));
        x.close(0, 3180, 4071);
        Check.due("the third day is too late", NONE, () -> x.earliest(0, 0, 1, 1739));
        Check.due("it is not for one asked later", 4620, () -> x.earliest(0, 0, 1, 1740));
    }

    /** "NONE without." */
    private static void p8EarliestNone() {
        ChannelRules x = Harbours.one();
        x.ship(21, 1, 0);
        Check.due("without a route", NONE, () -> x.earliest(0, 0, 3, 0));
        Check.due("to itself", NONE, () -> x.earliest(0, 0, 0, 0));
        Check.due("too wide", NONE, () -> x.earliest(1, 0, 1, 0));
        x.rule(0, 0, 1);
        Check.due("against the one way", NONE, () -> x.earliest(0, 1, 0, 0));
        x.rule(0, 2, 7);
        x.wind(true);
        Check.due("in the wind", NONE, () -> x.earliest(0, 0, 1, 0));
        x.wind(false);
        Check.due("without it", 0, () -> x.earliest(0, 0, 1, 0));
    }

    /** "IllegalArgumentException as ask()." */
    private static void p8EarliestWrong() {
        ChannelRules x = Harbours.one();
        x.tick(500);
        int[] noShip = {LEAST, -1, 1, 11, 12, MOST};
        for (int ship : noShip) {
            Check.due("no ship " + ship, ARGUMENT, () -> x.earliest(ship, 0, 1, 500));
        }
        int[] noPoint = {LEAST, -1, 8, MOST};
        for (int point : noPoint) {
            Check.due("from no point " + point, ARGUMENT, () -> x.earliest(0, point, 1, 500));
            Check.due("to no point " + point, ARGUMENT, () -> x.earliest(0, 0, point, 500));
        }
        int[] noTime = {LEAST, -1, 0, 499, 100001, MOST};
        for (int time : noTime) {
            Check.due("no time " + time, ARGUMENT, () -> x.earliest(0, 0, 1, time));
            Check.due("no time to itself", ARGUMENT, () -> x.earliest(0, 1, 1, time));
        }
        Check.due("NOW", 500, () -> x.earliest(0, 0, 1, 500));
        Check.due("the last time", 100000, () -> x.earliest(0, 0, 1, 100000));
    }

    /** It names no IllegalStateException: with 30 slots it answers. */
    private static void p8EarliestFull() {
        ChannelRules x = Harbours.full();
        Check.due("with 30 slots", 1001, () -> x.earliest(0, 0, 1, 1000));
        Check.due("still 30", 30, () -> x.count(2));
        Check.due("behind the 30th", 3901, () -> x.earliest(0, 0, 1, 3900));
    }

    /** "A GIVEN slot begins at another time: 1" */
    private static void p9ChangeMoves() {
        ChannelRules x = Harbours.two();
        x.ask(0, 0, 2, 100);
        x.tick(50);
        int[] times = {101, 99, 100, 100, 100000, 51};
        for (int t : times) {
            int time = t;
            Check.due("to " + t, 1, () -> x.change(1, time));
            Check.due("begins at " + t, time, () -> x.at(1, 0, 1));
            Check.due("goes on", time + 10, () -> x.at(1, 1, 1));
            Check.due("ends", time + 20, () -> x.at(1, 1, 2));
        }
        Check.due("to NOW", 1, () -> x.change(1, 50));
        Check.due("begins at NOW", 50, () -> x.at(1, 0, 1));
        Check.due("its old time is free", 2, () -> x.ask(0, 0, 2, 100));
    }

    /** "0 if that is not FREE" */
    private static void p9ChangeNotFree() {
        ChannelRules x = Harbours.two();
        x.rule(1, 3, 1);
        x.ask(0, 0, 2, 100);
        x.ask(0, 2, 1, 200);
        Check.due("into the other by its last minute", 0, () -> x.change(1, 181));
        Check.due("stays where it was", 100, () -> x.at(1, 0, 1));
        Check.due("up to the other", 1, () -> x.change(1, 180));
        Check.due("into the other by its first minute", 0, () -> x.change(1, 199));
        Check.due("behind the other", 1, () -> x.change(1, 200));
        x.close(1, 400, 500);
        Check.due("into the span", 0, () -> x.change(1, 381));
        Check.due("up to the span", 1, () -> x.change(1, 380));
        x.rule(0, 0, 2);
        Check.due("by a later rule nowhere", 0, () -> x.change(1, 800));
        Check.due("it stays GIVEN", 1, () -> x.count(21));
    }

    /** "(by the same stays)" */
    private static void p9ChangeSameStays() {
        ChannelRules x = Harbours.two();
        x.ask(0, 0, 2, 100);
        x.piece(0, 2, 1, 20);
        Check.due("a better route by now", 2, () -> x.route(0, 0, 2, 1));
        Check.due("moved", 1, () -> x.change(1, 200));
        Check.due("by its first piece", 0, () -> x.at(1, 0, 0));
        Check.due("and its second", 1, () -> x.at(1, 1, 0));
        x.close(1, 300, 400);
        Check.due("barred by its own stays", 0, () -> x.change(1, 300));
    }

    /** "-1 if it is ENDED" */
    private static void p9ChangeEnded() {
        ChannelRules x = Harbours.one();
        x.ask(0, 0, 1, 100);
        x.ask(0, 0, 1, 200);
        x.back(1);
        x.close(0, 205, 206);
        Check.due("taken back", -1, () -> x.change(1, 300));
        Check.due("ended by a span", -1, () -> x.change(2, 300));
        Check.due("to where it would not be FREE", -1, () -> x.change(2, 205));
        Check.due("its stay is as it was", 200, () -> x.at(2, 0, 1));
    }

    /** "or under way (its beginning is not behind NOW)" */
    private static void p9ChangeUnderWay() {
        ChannelRules x = Harbours.one();
        x.ask(0, 0, 1, 100);
        x.tick(99);
        Check.due("a minute before it begins", 1, () -> x.change(1, 101));
        x.tick(101);
        Check.due("as it begins", -1, () -> x.change(1, 300));
        x.tick(105);
        Check.due("under way", -1, () -> x.change(1, 300));
        x.tick(1000);
        Check.due("long over", -1, () -> x.change(1, 2000));
        Check.due("as it was", 101, () -> x.at(1, 0, 1));
        ChannelRules y = Harbours.one();
        y.ask(0, 0, 1, 0);
        Check.due("NOW is 0 and it begins at 0", -1, () -> y.change(1, 10));
    }

    /** "IllegalArgumentException if there is no such slot, or the time is not NOW .. 100000." */
    private static void p9ChangeWrong() {
        ChannelRules x = Harbours.one();
        x.ask(0, 0, 1, 100);
        x.ask(0, 0, 1, 700);
        x.tick(500);
        int[] noSlot = {LEAST, -1, 0, 3, 30, 31, MOST};
        for (int slot : noSlot) {
            Check.due("no slot " + slot, ARGUMENT, () -> x.change(slot, 600));
        }
        int[] noTime = {LEAST, -1, 0, 499, 100001, MOST};
        for (int time : noTime) {
            Check.due("no time " + time, ARGUMENT, () -> x.change(2, time));
            Check.due("no time for one under way", ARGUMENT, () -> x.change(1, time));
        }
        x.back(2);
        Check.due("no time for an ENDED one", ARGUMENT, () -> x.change(2, 499));
        Check.due("full, no 31st", ARGUMENT, () -> Harbours.full().change(31, 0));
        Check.due("full, the 30th", 1, () -> Harbours.full().change(30, 0));
    }

    /** "A slot is taken back: true; false if .. it is ENDED" */
    private static void p10BackOnce() {
        ChannelRules x = Harbours.one();
        x.ask(0, 0, 1, 100);
        x.ask(0, 0, 1, 200);
        Check.due("taken back", true, () -> x.back(1));
        Check.due("is ENDED", 0, () -> x.count(21));
        Check.due("again", false, () -> x.back(1));
        x.close(0, 200, 201);
        Check.due("ended by a span", false, () -> x.back(2));
    }

    /** "false if there is none such" */
    private static void p10BackNone() {
        ChannelRules x = Harbours.one();
        Check.due("no slots at all", false, () -> x.back(1));
        x.ask(0, 0, 1, 100);
        int[] noSlot = {LEAST, -1, 0, 2, 30, 31, MOST};
        for (int slot : noSlot) {
            Check.due("no slot " + slot, false, () -> x.back(slot));
        }
        Check.due("the slot stays GIVEN", 1, () -> x.count(3));
        ChannelRules full = Harbours.full();
        Check.due("full, no 31st", false, () -> full.back(31));
        Check.due("full, the 30th", true, () -> full.back(30));
    }

    /** "or its beginning is not behind NOW" */
    private static void p10BackUnderWay() {
        ChannelRules x = Harbours.one();
        x.ask(0, 0, 1, 100);
        x.ask(0, 0, 1, 101);
        x.tick(100);
        Check.due("as it begins", false, () -> x.back(1));
        Check.due("a minute before it begins", true, () -> x.back(2));
        x.tick(110);
        Check.due("over", false, () -> x.back(1));
        Check.due("it stays GIVEN", 1, () -> x.count(21));
        ChannelRules y = Harbours.one();
        y.ask(0, 0, 1, 0);
        Check.due("NOW is 0 and it begins at 0", false, () -> y.back(1));
    }

    /** "from a time up to a later one (that not included)" */
    private static void p11CloseMinutes() {
        ChannelRules x = Harbours.one();
        x.ask(0, 0, 1, 100);
        Check.due("up to when it enters", 0, () -> x.close(0, 50, 100));
        Check.due("from when it leaves", 0, () -> x.close(0, 110, 120));
        Check.due("its last minute", 1, () -> x.close(0, 109, 110));
        ChannelRules y = Harbours.one();
        y.ask(0, 0, 1, 100);
        Check.due("its first minute", 1, () -> y.close(0, 50, 101));
        ChannelRules z = Harbours.one();
        z.ask(0, 0, 1, 100);
        Check.due("a minute in its middle", 1, () -> z.close(0, 105, 106));
    }

    /** "how many slots are ENDED by it (those with a stay there that has a minute of it)" */
    private static void p11CloseCounts() {
        ChannelRules x = Harbours.two();
        x.ask(0, 0, 2, 100);
        x.ask(0, 2, 0, 100);
        x.ask(0, 0, 1, 115);
        x.ask(0, 0, 1, 200);
        x.ask(0, 0, 2, 90);
        x.back(5);
        Check.due("the second stay of one, the first of another", 2, () -> x.close(1, 109, 111));
        Check.due("the first is ENDED", 0, () -> x.count(21));
        Check.due("the second is ENDED", 0, () -> x.count(22));
        Check.due("a third on the other piece is not", 1, () -> x.count(23));
        Check.due("ENDED ones are not counted again", 0, () -> x.close(1, 109, 111));
        Check.due("the rest", 2, () -> x.close(0, 0, 100000));
        Check.due("all have ENDED", 0, () -> x.count(3));
        Check.due("all thirty", 30, () -> Harbours.full().close(0, 0, 100000));
    }

    /** A slot under way is ENDED by it, too; NOW is a time it may begin at. */
    private static void p11CloseUnderWay() {
        ChannelRules x = Harbours.one();
        x.ask(0, 0, 1, 100);
        x.ask(0, 0, 1, 101);
        x.tick(110);
        Check.due("one has left, one has a minute left", 1, () -> x.close(0, 110, 111));
        Check.due("the one that has left", 1, () -> x.count(21));
        Check.due("the one under way", 0, () -> x.count(22));
    }

    /** "IllegalArgumentException if there is no such piece" */
    private static void p11CloseWrong() {
        ChannelRules x = Harbours.two();
        int[] noPiece = {LEAST, -1, 2, 11, 12, MOST};
        for (int piece : noPiece) {
            Check.due("no piece " + piece, ARGUMENT, () -> x.close(piece, 10, 20));
        }
        Check.due("the last piece", 0, () -> x.close(1, 10, 20));
    }

    /** "or the times are not NOW .. 100000 and in order" */
    private static void p11CloseTimes() {
        ChannelRules x = Harbours.one();
        x.tick(500);
        int[][] wrong = {
            {499, 600}, {-1, 600}, {LEAST, 600}, {600, 100001}, {600, MOST}, {600, 600}, {601, 600},
            {500, 500}, {100000, 100000}, {100000, 100001}, {100001, 100002}, {MOST, LEAST},
            {LEAST, MOST}, {499, 499}, {600, 499}, {600, LEAST}, {600, -1},
        };
        for (int[] w : wrong) {
            Check.due("close(0, " + w[0] + ", " + w[1] + ")", ARGUMENT,
                () -> x.close(0, w[0], w[1]));
        }
        Check.due("from NOW, a minute", 0, () -> x.close(0, 500, 501));
        Check.due("up to the last time, a minute", 0, () -> x.close(0, 99999, 100000));
        Check.due("from NOW up to the last time", 0, () -> x.close(0, 500, 100000));
        Check.due("a fourth: wrong ones were none", 0, () -> x.close(0, 700, 701));
    }

    /** "IllegalStateException if it has 4 spans." */
    private static void p11CloseFull() {
        ChannelRules x = Harbours.two();
        x.ask(0, 0, 1, 100);
        for (int i = 0; i < 4; i++) {
            int span = i;
            Check.due("span " + i, 0, () -> x.close(0, 10 * span, 10 * span + 10));
        }
        Check.due("a fifth", STATE, () -> x.close(0, 100, 200));
        Check.due("a fifth that is one of the four", STATE, () -> x.close(0, 0, 10));
        Check.due("a fifth that is wrong", ARGUMENT, () -> x.close(0, 200, 100));
        Check.due("it ended none", 1, () -> x.count(21));
        Check.due("it closed nothing", 2, () -> x.ask(0, 0, 1, 150));
        Check.due("another piece", 0, () -> x.close(1, 0, 10));
        x.tick(40);
        Check.due("a fifth, the four lie behind", STATE, () -> x.close(0, 200, 300));
    }

    /** "It is a time: true; false if it is ahead of NOW or above 100000." */
    private static void p12Tick() {
        ChannelRules x = new ChannelRules();
        Check.due("below 0", false, () -> x.tick(-1));
        Check.due("0 again", true, () -> x.tick(0));
        Check.due("on", true, () -> x.tick(500));
        int[] wrong = {LEAST, -1, 0, 499, 100001, MOST};
        for (int time : wrong) {
            Check.due("tick(" + time + ")", false, () -> x.tick(time));
            Check.due("NOW is as it was", 500, () -> x.count(4));
        }
        Check.due("NOW again", true, () -> x.tick(500));
        Check.due("a minute on", true, () -> x.tick(501));
        Check.due("the last time", true, () -> x.tick(100000));
        Check.due("a minute behind it", false, () -> x.tick(100001));
        Check.due("the last time again", true, () -> x.tick(100000));
        Check.due("NOW is the last time", 100000, () -> x.count(4));
    }

    /** Slots 1 and 2 meet on piece 0, slots 1 and 3 overtake on both pieces, 2 and 3 meet. */
    private static ChannelRules conflicts() {
        ChannelRules x = Harbours.two();
        x.ship(5, 1, 0);
        x.rule(0, 4, 1);
        x.rule(1, 4, 1);
        x.ask(0, 0, 2, 100);
        x.ask(1, 1, 0, 105);
        x.ask(1, 0, 2, 100);
        x.rule(0, 4, 0);
        x.rule(1, 4, 0);
        x.rule(0, 3, 1);
        return x;
    }

    /** "NONE without." */
    private static void p13ConflictNone() {
        ChannelRules x = conflicts();
        int[] none = {LEAST, -1, 4, 5, MOST};
        for (int i : none) {
            for (int s = 0; s < 4; s++) {
                int side = s;
                Check.due("conflict " + i, NONE, () -> x.conflict(i, side));
            }
        }
        Check.due("the last one", 2, () -> x.conflict(3, 0));
        Check.due("no slots", NONE, () -> Harbours.one().conflict(0, 3));
    }

    /** "IllegalArgumentException if there is no such side." */
    private static void p13ConflictSides() {
        ChannelRules x = conflicts();
        int[] noSide = {LEAST, -1, 4, MOST};
        for (int side : noSide) {
            Check.due("no side " + side, ARGUMENT, () -> x.conflict(0, side));
            Check.due("no side of no conflict", ARGUMENT, () -> x.conflict(4, side));
            Check.due("no side of conflict -1", ARGUMENT, () -> x.conflict(-1, side));
        }
    }

    /** "by pairs of slots ascending, then the stays of the first one" */
    private static void p13ConflictOrder() {
        ChannelRules x = conflicts();
        int[][] due = {{1, 2, 0, 6}, {1, 3, 0, 7}, {1, 3, 1, 7}, {2, 3, 0, 6}};
        Check.due("conflicts", due.length, () -> x.count(5));
        for (int c = 0; c < due.length; c++) {
            int i = c;
            for (int s = 0; s < 4; s++) {
                int side = s;
                Check.due("conflict(" + c + ", " + s + ")", due[i][side],
                    () -> x.conflict(i, side));
            }
        }
        ChannelRules y = new ChannelRules();
        y.piece(1, 2, 10, 20);
        y.piece(0, 1, 10, 20);
        y.ship(5, 1, 0);
        y.ask(0, 0, 2, 100);
        y.ask(0, 2, 0, 100);
        y.rule(0, 3, 1);
        y.rule(1, 3, 1);
        Check.due("they meet at a point alone", 0, () -> y.count(5));
        y.change(2, 400);
        y.rule(0, 4, 1);
        y.rule(1, 4, 1);
        y.ask(0, 0, 2, 100);
        y.rule(0, 4, 0);
        y.rule(1, 4, 0);
        Check.due("the first stay, though its piece is greater", 1, () -> y.conflict(0, 2));
        Check.due("then the second", 0, () -> y.conflict(1, 2));
    }

    /** "of GIVEN slots" */
    private static void p13ConflictOfGiven() {
        ChannelRules x = conflicts();
        x.back(1);
        Check.due("without the first slot", 1, () -> x.count(5));
        Check.due("the rest, less slot", 2, () -> x.conflict(0, 0));
        Check.due("the rest, greater slot", 3, () -> x.conflict(0, 1));
        x.close(0, 100, 101);
        Check.due("without the third", NONE, () -> x.conflict(0, 0));
        ChannelRules y = conflicts();
        y.rule(0, 3, 0);
        Check.due("without the meetings", 2, () -> y.count(5));
        y.tick(50000);
        Check.due("long over they are told still", 2, () -> y.count(5));
    }

    /** Stays at one time on other pieces are none, though one ship is dangerous. */
    private static void p13ConflictOnPieces() {
        ChannelRules x = Harbours.two();
        x.ship(8, 1, 2);
        x.ship(8, 5, 0);
        x.ask(2, 1, 2, 104);
        x.ask(1, 0, 1, 100);
        x.ask(2, 1, 2, 105);
        Check.due("all are GIVEN", 3, () -> x.count(3));
        Check.due("no conflicts", 0, () -> x.count(5));
        Check.due("not a first one", NONE, () -> x.conflict(0, 3));
    }

    /** "what 0: piece, 1: enters, 2: leaves, 3: 1 if it goes FORWARD, else 0" */
    private static void p14AtOfStays() {
        ChannelRules x = new ChannelRules();
        x.piece(2, 1, 7, 20);
        x.piece(0, 1, 10, 20);
        x.ship(8, 2, 0);
        x.ask(0, 0, 2, 100);
        int[][] due = {{1, 100, 105, 1}, {0, 105, 109, 0}};
        for (int i = 0; i < 2; i++) {
            int stay = i;
            for (int w = 0; w < 4; w++) {
                int what = w;
                Check.due("at(1, " + i + ", " + w + ")", due[i][w], () -> x.at(1, stay, what));
            }
        }
        x.back(1);
        Check.due("of an ENDED one", 109, () -> x.at(1, 1, 2));
    }

    /** "IndexOutOfBoundsException if there is no such slot, stay or what." */
    private static void p14AtWrong() {
        ChannelRules x = Harbours.two();
        x.ask(0, 0, 2, 100);
        x.ask(0, 0, 1, 200);
        int[] noSlot = {LEAST, -1, 0, 3, 30, 31, MOST};
        for (int slot : noSlot) {
            Check.due("no slot " + slot, INDEX, () -> x.at(slot, 0, 0));
        }
        int[] noStay = {LEAST, -1, 2, 7, MOST};
        for (int stay : noStay) {
            Check.due("no stay " + stay, INDEX, () -> x.at(1, stay, 0));
        }
        Check.due("the second stay of two", 1, () -> x.at(1, 1, 0));
        Check.due("a second stay of one", INDEX, () -> x.at(2, 1, 0));
        int[] noWhat = {LEAST, -1, 4, MOST};
        for (int what : noWhat) {
            Check.due("no what " + what, INDEX, () -> x.at(1, 0, what));
        }
    }

    private static void p14AtFull() {
        ChannelRules x = Harbours.full();
        Check.due("the first of 30", 1000, () -> x.at(1, 0, 1));
        Check.due("the last of 30", 3900, () -> x.at(30, 0, 1));
        Check.due("a 31st", INDEX, () -> x.at(31, 0, 1));
    }

    private static void p15CountOfNew() {
        ChannelRules x = new ChannelRules();
        for (int w = 0; w <= 6; w++) {
            int what = w;
            Check.due("new, count(" + w + ")", 0, () -> x.count(what));
        }
        for (int w = 7; w <= 51; w++) {
            int what = w;
            Check.due("new, count(" + w + ")", NONE, () -> x.count(what));
        }
    }

    /** "from 20 on of slot what - 20: 1 if it is GIVEN, 0 if ENDED" */
    private static void p15CountOfSlots() {
        ChannelRules x = Harbours.full();
        x.back(2);
        x.close(0, 3900, 3901);
        Check.due("slot 0", NONE, () -> x.count(20));
        Check.due("slot 1", 1, () -> x.count(21));
        Check.due("slot 2, taken back", 0, () -> x.count(22));
        Check.due("slot 29", 1, () -> x.count(49));
        Check.due("slot 30, ended by a span", 0, () -> x.count(50));
        Check.due("slot 31", NONE, () -> x.count(51));
        Check.due("slots", 30, () -> x.count(2));
        Check.due("GIVEN ones", 28, () -> x.count(3));
    }

    /** "NONE for another what or slot." */
    private static void p15CountOther() {
        ChannelRules x = Harbours.one();
        x.ask(0, 0, 1, 100);
        int[] none = {LEAST, LEAST + 19, LEAST + 20, LEAST + 21, -1, 7, 8, 19, 20, 22, MOST};
        for (int what : none) {
            Check.due("count(" + what + ")", NONE, () -> x.count(what));
        }
        Check.due("slot 1", 1, () -> x.count(21));
    }
}
