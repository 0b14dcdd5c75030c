/**
 * The sentences of the document's terms that name an edge, in its order: each has a method of its
 * own, with the sentence above it, and stands on both sides of that edge.
 */
public final class TermsEdgesTest {
    private static final int NONE = ChannelRules.NONE;
    private static final int ARGUMENT = Check.ARGUMENT;
    private static final int STATE = Check.STATE;
    private static final int INDEX = Check.INDEX;

    private TermsEdgesTest() {
    }

    public static void main(String[] args) {
        termsOfPiecesAndShips();
        termsOfStays();
        termsOfTwoStays();
        termsOfSlots();
        Check.end();
    }

    private static void termsOfPiecesAndShips() {
        points();
        twelvePieces();
        lengthOfPiece();
        widthOfPiece();
        bothDirections();
        time();
        nowAtFirst();
        twelveShips();
        widthOfShip();
        speedOfShip();
        classOfShip();
        roundedUp();
        wideEnough();
        leastTime();
        leastPiece();
        noRouteToItself();
        longestRoute();
        passageWithoutWaiting();
    }

    private static void termsOfStays() {
        oneWay();
        nightClasses();
        nightMinutes();
        nightOfLaterStay();
        wind();
        closedMinutes();
        closedByEachSpan();
        closedByItsOwnSpans();
    }

    private static void termsOfTwoStays() {
        minuteInCommon();
        otherPiece();
        dangerous();
        meetingBarred();
        meetingWidths();
        overtakingAtOneTime();
        overtakingByOne();
        overtakingWidths();
        followingIsNoOvertaking();
    }

    private static void termsOfSlots() {
        thirtySlotsInAll();
        thirtySlotsOfSevenStays();
        endedBarNone();
        sameShip();
        butItself();
        rulesEndNone();
        windEndsNone();
        exceptionToldFirst();
        manyCalls();
    }

    /** "POINTS 0 .. 7." */
    private static void points() {
        ChannelRules x = Harbours.one();
        Check.due("point -1", ARGUMENT, () -> x.piece(-1, 3, 5, 5));
        Check.due("point -1, second", ARGUMENT, () -> x.piece(3, -1, 5, 5));
        Check.due("point 8", ARGUMENT, () -> x.piece(8, 3, 5, 5));
        Check.due("point 8, second", ARGUMENT, () -> x.piece(3, 8, 5, 5));
        Check.due("points 0 and 7", 1, () -> x.piece(0, 7, 5, 20));
        Check.due("a route to point 7", 1, () -> x.route(0, 0, 7, 1));
        Check.due("a route from point 7", 1, () -> x.route(0, 7, 0, 1));
    }

    /** "PIECES 0, 1, .. (12 at most)" */
    private static void twelvePieces() {
        ChannelRules x = new ChannelRules();
        for (int i = 0; i < 12; i++) {
            int number = i;
            Check.due("piece " + i, number, () -> x.piece(number % 7, 7, 5, 5));
        }
        Check.due("a 13th piece", STATE, () -> x.piece(0, 1, 5, 5));
        Check.due("there are 12 pieces", 12, () -> x.count(0));
        Check.due("a rule of the 12th", true, () -> x.rule(11, 0, 1));
        Check.due("no rule of a 13th", false, () -> x.rule(12, 0, 1));
    }

    /** "with a LENGTH (1 .. 100)" */
    private static void lengthOfPiece() {
        ChannelRules x = new ChannelRules();
        x.ship(1, 1, 0);
        Check.due("length 0", ARGUMENT, () -> x.piece(0, 1, 0, 5));
        Check.due("length 101", ARGUMENT, () -> x.piece(0, 1, 101, 5));
        Check.due("length 1", 0, () -> x.piece(0, 1, 1, 5));
        Check.due("length 100", 1, () -> x.piece(2, 3, 100, 5));
        Check.due("time of length 1", 1, () -> x.route(0, 0, 1, 0));
        Check.due("time of length 100", 100, () -> x.route(0, 2, 3, 0));
    }

    /** "and a WIDTH (1 .. 100)" */
    private static void widthOfPiece() {
        ChannelRules x = new ChannelRules();
        x.ship(1, 1, 0);
        x.ship(100, 1, 0);
        Check.due("width 0", ARGUMENT, () -> x.piece(0, 1, 5, 0));
        Check.due("width 101", ARGUMENT, () -> x.piece(0, 1, 5, 101));
        Check.due("width 1", 0, () -> x.piece(0, 1, 5, 1));
        Check.due("width 100", 1, () -> x.piece(2, 3, 5, 100));
        Check.due("width 1 is enough for 1", 5, () -> x.route(0, 0, 1, 0));
        Check.due("width 100 is enough for 100", 5, () -> x.route(1, 2, 3, 0));
    }

    /** "a ship may go along them in both directions (FORWARD: from the first told point ..)" */
    private static void bothDirections() {
        ChannelRules x = new ChannelRules();
        x.piece(5, 2, 10, 20);
        x.ship(8, 1, 0);
        Check.due("from the first told point", 1, () -> x.ask(0, 5, 2, 0));
        Check.due("from the second told point", 2, () -> x.ask(0, 2, 5, 20));
        Check.due("is FORWARD", 1, () -> x.at(1, 0, 3));
        Check.due("is not FORWARD", 0, () -> x.at(2, 0, 3));
    }

    /** "TIME is 0 .. 100000" */
    private static void time() {
        ChannelRules x = Harbours.one();
        Check.due("time -1", ARGUMENT, () -> x.ask(0, 0, 1, -1));
        Check.due("time 100001", ARGUMENT, () -> x.ask(0, 0, 1, 100001));
        Check.due("time 0", 1, () -> x.ask(0, 0, 1, 0));
        Check.due("time 100000", 2, () -> x.ask(0, 0, 1, 100000));
        Check.due("a stay leaves behind the last time", 100010, () -> x.at(2, 0, 2));
    }

    /** "NOW is the latest that was told (0 at first)." */
    private static void nowAtFirst() {
        ChannelRules x = Harbours.one();
        Check.due("NOW at first", 0, () -> x.count(4));
        x.ask(0, 0, 1, 500);
        x.close(0, 700, 800);
        Check.due("a time asked for is not NOW", 0, () -> x.count(4));
        x.tick(30);
        x.tick(20);
        Check.due("the latest is NOW", 30, () -> x.count(4));
    }

    /** "SHIPS 0, 1, .. (12 at most)" */
    private static void twelveShips() {
        ChannelRules x = new ChannelRules();
        x.piece(0, 1, 20, 100);
        for (int i = 0; i < 12; i++) {
            int number = i;
            Check.due("ship " + i, number, () -> x.ship(5, number + 1, 0));
        }
        Check.due("a 13th ship", STATE, () -> x.ship(5, 5, 0));
        Check.due("there are 12 ships", 12, () -> x.count(1));
        Check.due("the first ship's own speed", 20, () -> x.route(0, 0, 1, 0));
        Check.due("the last ship's own speed", 2, () -> x.route(11, 0, 1, 0));
    }

    /** "WIDTH (1 .. 100)" */
    private static void widthOfShip() {
        ChannelRules x = new ChannelRules();
        Check.due("ship's width 0", ARGUMENT, () -> x.ship(0, 5, 0));
        Check.due("ship's width 101", ARGUMENT, () -> x.ship(101, 5, 0));
        Check.due("ship's width 1", 0, () -> x.ship(1, 5, 0));
        Check.due("ship's width 100", 1, () -> x.ship(100, 5, 0));
    }

    /** "SPEED (1 .. 20)" */
    private static void speedOfShip() {
        ChannelRules x = new ChannelRules();
        Check.due("speed 0", ARGUMENT, () -> x.ship(5, 0, 0));
        Check.due("speed 21", ARGUMENT, () -> x.ship(5, 21, 0));
        Check.due("speed -1", ARGUMENT, () -> x.ship(5, -1, 0));
        Check.due("speed 1", 0, () -> x.ship(5, 1, 0));
        Check.due("speed 20", 1, () -> x.ship(5, 20, 0));
    }

    /** "CLASS 0 plain, 1 large, 2 DANGEROUS." */
    private static void classOfShip() {
        ChannelRules x = new ChannelRules();
        Check.due("class -1", ARGUMENT, () -> x.ship(5, 5, -1));
        Check.due("class 3", ARGUMENT, () -> x.ship(5, 5, 3));
        Check.due("class 0", 0, () -> x.ship(5, 5, 0));
        Check.due("class 1", 1, () -> x.ship(5, 5, 1));
        Check.due("class 2", 2, () -> x.ship(5, 5, 2));
    }

    /** "On a piece it takes LENGTH / SPEED, rounded up." */
    private static void roundedUp() {
        int[][] lengthSpeedTime = {
            {1, 1, 1}, {1, 20, 1}, {19, 20, 1}, {20, 20, 1}, {21, 20, 2}, {40, 20, 2}, {41, 20, 3},
            {100, 20, 5}, {100, 1, 100}, {100, 3, 34}, {99, 3, 33}, {2, 3, 1}, {10, 4, 3},
        };
        for (int[] l : lengthSpeedTime) {
            ChannelRules x = new ChannelRules();
            x.piece(0, 1, l[0], 5);
            x.ship(5, l[1], 0);
            String call = "length " + l[0] + ", speed " + l[1];
            Check.due(call, l[2], () -> x.route(0, 0, 1, 0));
            x.ask(0, 0, 1, 7);
            Check.due(call + ", leaves", 7 + l[2], () -> x.at(1, 0, 2));
        }
    }

    /** "goes along pieces as wide as it at least" */
    private static void wideEnough() {
        ChannelRules x = new ChannelRules();
        x.piece(0, 1, 5, 11);
        x.piece(0, 1, 50, 12);
        x.piece(1, 2, 5, 13);
        x.ship(11, 5, 0);
        x.ship(12, 5, 0);
        x.ship(13, 5, 0);
        Check.due("as wide as the piece", 0, () -> x.route(0, 0, 1, 1));
        Check.due("wider by one, by another piece", 1, () -> x.route(1, 0, 1, 1));
        Check.due("wider than both", NONE, () -> x.route(2, 0, 1, 1));
        Check.due("a later piece alone is wide enough", NONE, () -> x.route(2, 0, 2, 0));
        Check.due("as wide as that piece", 1, () -> x.route(2, 1, 2, 0));
    }

    /** "in the least time in all" */
    private static void leastTime() {
        ChannelRules x = new ChannelRules();
        x.piece(0, 3, 16, 50);
        x.piece(0, 1, 5, 50);
        x.piece(1, 2, 5, 50);
        x.piece(2, 3, 5, 50);
        x.ship(5, 1, 0);
        x.ship(5, 4, 0);
        Check.due("three pieces in less time", 15, () -> x.route(0, 0, 3, 0));
        Check.due("three pieces", 3, () -> x.route(0, 0, 3, 2));
        Check.due("rounded piece by piece, the one takes less", 4, () -> x.route(1, 0, 3, 0));
        Check.due("one piece", 1, () -> x.route(1, 0, 3, 2));
    }

    /** "at each point it goes on by the least piece by which that time is kept" */
    private static void leastPiece() {
        ChannelRules x = new ChannelRules();
        x.piece(3, 1, 9, 50);
        x.piece(0, 1, 10, 50);
        x.piece(2, 3, 10, 50);
        x.piece(1, 3, 10, 50);
        x.piece(0, 2, 10, 50);
        x.piece(0, 3, 20, 50);
        x.piece(3, 2, 10, 50);
        x.ship(5, 5, 0);
        Check.due("the least first piece, of more pieces", 1, () -> x.route(0, 0, 3, 1));
        Check.due("and the least next one", 1, () -> x.ask(0, 0, 3, 0));
        Check.due("of two that take the same, rounded up", 0, () -> x.at(1, 1, 0));
        Check.due("from the other end", 0, () -> x.route(0, 3, 0, 1));
        x.ship(5, 1, 0);
        Check.due("a less piece that takes more time is not it", 4, () -> x.route(1, 0, 2, 1));
    }

    /** "(to the point it stands at there is none)" */
    private static void noRouteToItself() {
        ChannelRules x = Harbours.two();
        for (int p = 0; p < 8; p++) {
            int point = p;
            Check.due("a route to itself", NONE, () -> x.route(0, point, point, 0));
            Check.due("a slot to itself", 0, () -> x.ask(0, point, point, 0));
            Check.due("the earliest to itself", NONE, () -> x.earliest(0, point, point, 0));
        }
    }

    /** A route through all eight points, "POINTS 0 .. 7". */
    private static void longestRoute() {
        ChannelRules x = Harbours.row();
        Check.due("all points in a row", 700, () -> x.route(0, 0, 7, 0));
        Check.due("seven pieces", 7, () -> x.route(0, 0, 7, 2));
        Check.due("the other way", 6, () -> x.route(0, 7, 0, 1));
        Check.due("a slot of seven stays", 1, () -> x.ask(0, 7, 0, 100000));
        Check.due("its last piece", 0, () -> x.at(1, 6, 0));
        Check.due("its last time", 100700, () -> x.at(1, 6, 2));
        Check.due("it has no eighth stay", INDEX, () -> x.at(1, 7, 0));
    }

    /** "one behind the other without waiting: from when it enters up to when it leaves" */
    private static void passageWithoutWaiting() {
        ChannelRules x = Harbours.row();
        x.ask(0, 0, 7, 3);
        for (int i = 0; i < 7; i++) {
            int stay = i;
            Check.due("enters stay " + i, 3 + 100 * stay, () -> x.at(1, stay, 1));
            Check.due("leaves stay " + i, 103 + 100 * stay, () -> x.at(1, stay, 2));
        }
    }

    /** "1 ONE WAY, if the piece is told to have one direction alone and it is the other" */
    private static void oneWay() {
        ChannelRules x = Harbours.two();
        x.rule(1, 0, 1);
        Check.due("forward alone, backward", -2, () -> x.ask(0, 2, 1, 0));
        Check.due("forward alone, forward", 1, () -> x.ask(0, 1, 2, 0));
        Check.due("forward alone on a later piece", -2, () -> x.ask(0, 2, 0, 20));
        x.rule(1, 0, 2);
        Check.due("backward alone, forward", -2, () -> x.ask(0, 1, 2, 20));
        Check.due("backward alone, backward", 2, () -> x.ask(0, 2, 1, 20));
        Check.due("backward alone on the second stay", -2, () -> x.ask(0, 0, 2, 40));
        x.rule(1, 0, 0);
        Check.due("no one way any more", 3, () -> x.ask(0, 0, 2, 40));
    }

    /** "2 NIGHT, if the piece bars classes from some on (1 or 2) at night and the ship's is" */
    private static void nightClasses() {
        int[][] ruleClassAnswer = {
            {0, 0, 1}, {0, 1, 1}, {0, 2, 1}, {1, 0, 1}, {1, 1, -3}, {1, 2, -3},
            {2, 0, 1}, {2, 1, 1}, {2, 2, -3},
        };
        for (int[] r : ruleClassAnswer) {
            ChannelRules x = new ChannelRules();
            x.piece(0, 1, 10, 20);
            x.ship(8, 1, r[1]);
            x.rule(0, 1, r[0]);
            String call = "night from class " + r[0] + ", class " + r[1];
            Check.due(call, r[2], () -> x.ask(0, 0, 1, 100));
            Check.due(call + ", by day", r[2] == 1 ? 2 : 1, () -> x.ask(0, 0, 1, 700));
        }
    }

    /** "some minute of the stay is of the night: t mod 1440 below 300 or at least 1200" */
    private static void nightMinutes() {
        int[] barred = {0, 1, 290, 299, 1191, 1199, 1200, 1430, 1431, 1435, 1439, 1440, 1739, 2631};
        int[] free = {300, 301, 1189, 1190, 1740, 2630};
        for (int day = 0; day <= 65; day += 13) {
            int midnight = 1440 * day;
            for (int t : barred) {
                int time = midnight + t;
                Check.due("at night, " + time, -3, () -> nightly().ask(0, 0, 1, time));
            }
            for (int t : free) {
                int time = midnight + t;
                Check.due("by day, " + time, 1, () -> nightly().ask(0, 0, 1, time));
            }
        }
    }

    private static ChannelRules nightly() {
        ChannelRules x = new ChannelRules();
        x.piece(0, 1, 10, 20);
        x.ship(8, 1, 1);
        x.rule(0, 1, 1);
        return x;
    }

    /** Of a stay alone: the rest of the passage may be at night. */
    private static void nightOfLaterStay() {
        ChannelRules x = nightly();
        x.piece(1, 2, 100, 20);
        Check.due("the piece with the rule is left by day", 1, () -> x.ask(0, 0, 2, 1190));
        Check.due("a minute later it is not", -3, () -> x.ask(0, 0, 2, 1191));
        Check.due("it is entered by day", 2, () -> x.ask(0, 2, 0, 200));
        Check.due("a minute before it is not", -3, () -> x.ask(0, 2, 0, 199));
        x.piece(3, 4, 100, 20);
        x.rule(2, 1, 2);
        x.ship(8, 1, 2);
        Check.due("a long stay, up to the night", 3, () -> x.ask(1, 3, 4, 1100));
        Check.due("a long stay, into the night", -3, () -> x.ask(1, 3, 4, 1101));
    }

    /** "3 WIND, if the piece bars ships above a width when there is WIND and there is" */
    private static void wind() {
        ChannelRules x = Harbours.one();
        x.rule(0, 2, 7);
        Check.due("above the width, without wind", 1, () -> x.ask(0, 0, 1, 0));
        x.wind(true);
        Check.due("above the width", -4, () -> x.ask(0, 0, 1, 20));
        x.rule(0, 2, 8);
        Check.due("as wide", 2, () -> x.ask(0, 0, 1, 20));
        x.rule(0, 2, 0);
        Check.due("all are above 0", -4, () -> x.ask(0, 0, 1, 40));
        x.rule(0, 2, 100);
        Check.due("none is above 100", 3, () -> x.ask(0, 0, 1, 40));
        x.rule(0, 2, 7);
        x.wind(false);
        Check.due("the wind is gone", 4, () -> x.ask(0, 0, 1, 60));
    }

    /** "4 CLOSED, if a closed span has a minute of it in common." */
    private static void closedMinutes() {
        ChannelRules x = Harbours.one();
        x.close(0, 100, 101);
        Check.due("leaves as the span begins", 1, () -> x.ask(0, 0, 1, 90));
        Check.due("its last minute is the span's", -5, () -> x.ask(0, 0, 1, 91));
        Check.due("the span is within it", -5, () -> x.ask(0, 0, 1, 95));
        Check.due("its first minute is the span's", -5, () -> x.ask(0, 0, 1, 100));
        Check.due("enters as the span ends", 2, () -> x.ask(0, 0, 1, 101));
        x.close(0, 200, 300);
        Check.due("it is within the span", -5, () -> x.ask(0, 0, 1, 250));
    }

    /** Each of the four spans of a piece bars, and those of that piece alone. */
    private static void closedByEachSpan() {
        ChannelRules x = Harbours.two();
        for (int span = 0; span < 4; span++) {
            x.close(1, 400 - 100 * span, 410 - 100 * span);
        }
        for (int s = 1; s <= 4; s++) {
            int begin = 100 * s;
            Check.due("closed at " + begin, -5, () -> x.ask(0, 1, 2, begin));
            Check.due("closed for a second stay at " + begin, -5, () -> x.ask(0, 0, 2, begin - 1));
            Check.due("the other piece is not", begin / 100, () -> x.ask(0, 0, 1, begin));
        }
    }

    /** All the spans that there can be: those of another piece do not bar. */
    private static void closedByItsOwnSpans() {
        ChannelRules x = new ChannelRules();
        x.ship(8, 1, 0);
        for (int p = 0; p < 12; p++) {
            // A row of seven pieces, then five shorter ones, each from a point to the next but one.
            x.piece(p % 7, p % 7 + (p < 7 ? 1 : 2), p < 7 ? 10 : 9, 20);
            for (int span = 0; span < 4; span++) {
                x.close(p, 1000 * p + 100 * span, 1000 * p + 100 * span + 50);
            }
        }
        for (int p = 0; p < 12; p++) {
            int a = p % 7;
            int b = a + (p < 7 ? 1 : 2);
            for (int span = 0; span < 4; span++) {
                int begin = 1000 * p + 100 * span;
                Check.due("closed at " + begin, begin + 50, () -> x.earliest(0, a, b, begin));
            }
            int after = 1000 * p + 1000;
            Check.due("a span of the next piece", after, () -> x.earliest(0, a, b, after));
        }
    }

    /** "TWO STAYS on a piece with a minute in common" */
    private static void minuteInCommon() {
        ChannelRules x = Harbours.one();
        x.rule(0, 3, 1);
        x.ask(0, 0, 1, 100);
        Check.due("its last minute is the other's first", -7, () -> x.ask(0, 1, 0, 91));
        Check.due("its first minute is the other's last", -7, () -> x.ask(0, 1, 0, 109));
        Check.due("leaves as the other enters", 2, () -> x.ask(0, 1, 0, 90));
        Check.due("enters as the other leaves", 3, () -> x.ask(0, 1, 0, 110));
    }

    /** "TWO STAYS on a piece": pieces that join the same points are others. */
    private static void otherPiece() {
        ChannelRules x = Harbours.one();
        x.piece(0, 1, 20, 40);
        x.ship(30, 2, 2);
        Check.due("on the narrow piece", 1, () -> x.ask(0, 0, 1, 100));
        Check.due("a dangerous one on the wide piece", 2, () -> x.ask(1, 0, 1, 100));
        Check.due("is on it", 1, () -> x.at(2, 0, 0));
    }

    /** "5 if one of the ships is DANGEROUS" */
    private static void dangerous() {
        int[][] classes = {{2, 0}, {2, 1}, {0, 2}, {1, 2}, {2, 2}};
        for (int[] c : classes) {
            ChannelRules x = new ChannelRules();
            x.piece(0, 1, 10, 100);
            x.rule(0, 4, 1);
            x.ship(1, 1, c[0]);
            x.ship(1, 1, c[1]);
            x.ask(0, 0, 1, 100);
            String call = "class " + c[1] + " with class " + c[0];
            Check.due(call + ", towards it", -6, () -> x.ask(1, 1, 0, 109));
            Check.due(call + ", behind it", -6, () -> x.ask(1, 0, 1, 109));
            Check.due(call + ", when it has left", 2, () -> x.ask(1, 0, 1, 110));
        }
        ChannelRules x = new ChannelRules();
        x.piece(0, 1, 10, 100);
        x.ship(1, 1, 1);
        x.ask(0, 0, 1, 100);
        Check.due("large ones are not", 2, () -> x.ask(0, 1, 0, 100));
    }

    /** "6 MEETING: they go in opposite directions, and the piece bars it" */
    private static void meetingBarred() {
        ChannelRules x = Harbours.one();
        x.ask(0, 0, 1, 100);
        x.rule(0, 3, 1);
        Check.due("meeting is barred", -7, () -> x.ask(0, 1, 0, 105));
        Check.due("one direction is no meeting", 2, () -> x.ask(0, 0, 1, 101));
        x.rule(0, 3, 0);
        Check.due("meeting is not barred", 3, () -> x.ask(0, 1, 0, 105));
    }

    /** "or their widths together are above the piece's" */
    private static void meetingWidths() {
        ChannelRules x = Harbours.one();
        x.ship(12, 1, 0);
        x.ship(13, 1, 0);
        x.ask(0, 0, 1, 100);
        Check.due("together above the piece's", -7, () -> x.ask(2, 1, 0, 105));
        Check.due("together as wide as the piece", 2, () -> x.ask(1, 1, 0, 105));
    }

    /** "(entering or leaving at one time is overtaking, too)" */
    private static void overtakingAtOneTime() {
        ChannelRules x = Harbours.one();
        x.ship(8, 2, 0);
        x.ask(0, 0, 1, 100);
        Check.due("enter and leave at one time", -8, () -> x.ask(0, 0, 1, 100));
        Check.due("enter at one time", -8, () -> x.ask(1, 0, 1, 100));
        Check.due("leave at one time", -8, () -> x.ask(1, 0, 1, 105));
        Check.due("leaves a minute behind", 2, () -> x.ask(1, 0, 1, 106));
    }

    /** "the one that enters first does not leave first", whichever of them was given. */
    private static void overtakingByOne() {
        ChannelRules x = Harbours.one();
        x.ship(8, 2, 0);
        x.ask(1, 0, 1, 100);
        Check.due("enters with it, leaves behind it", -8, () -> x.ask(0, 0, 1, 100));
        Check.due("enters first, leaves behind it", -8, () -> x.ask(0, 0, 1, 99));
        Check.due("enters first, leaves with it", -8, () -> x.ask(0, 0, 1, 95));
        Check.due("enters first, leaves first", 2, () -> x.ask(0, 0, 1, 94));
        Check.due("enters last, leaves last", 3, () -> x.ask(0, 0, 1, 101));
    }

    /** "and the piece does not allow it, or their widths together are above the piece's" */
    private static void overtakingWidths() {
        ChannelRules x = Harbours.one();
        x.ship(12, 2, 0);
        x.ship(13, 2, 0);
        x.ask(0, 0, 1, 100);
        Check.due("not allowed", -8, () -> x.ask(1, 0, 1, 103));
        x.rule(0, 4, 1);
        Check.due("allowed, together above the piece's", -8, () -> x.ask(2, 0, 1, 103));
        Check.due("allowed, together as wide as the piece", 2, () -> x.ask(1, 0, 1, 103));
    }

    /** One behind the other, however wide, is no conflict. */
    private static void followingIsNoOvertaking() {
        ChannelRules x = Harbours.one();
        x.ship(20, 1, 1);
        Check.due("first", 1, () -> x.ask(1, 0, 1, 100));
        Check.due("as wide as the piece, behind it", 2, () -> x.ask(1, 0, 1, 101));
        Check.due("as wide as the piece, ahead of it", 3, () -> x.ask(1, 0, 1, 99));
    }

    /** "SLOTS 1, 2, .. (30 at most in all)": ENDED ones are of them. */
    private static void thirtySlotsInAll() {
        ChannelRules x = Harbours.full();
        Check.due("there are 30", 30, () -> x.count(2));
        for (int s = 1; s <= 30; s++) {
            int slot = s;
            Check.due("taken back", true, () -> x.back(slot));
        }
        Check.due("none is GIVEN", 0, () -> x.count(3));
        Check.due("there are still 30", 30, () -> x.count(2));
        Check.due("a 31st", STATE, () -> x.ask(0, 0, 1, 50000));
    }

    /** The most stays that there can be. */
    private static void thirtySlotsOfSevenStays() {
        ChannelRules x = Harbours.row();
        for (int s = 1; s <= 30; s++) {
            int slot = s;
            Check.due("slot " + s, slot, () -> x.ask(0, 0, 7, 1000 * slot));
        }
        for (int s = 1; s <= 30; s++) {
            int slot = s;
            for (int i = 0; i < 7; i++) {
                int stay = i;
                Check.due("its piece", stay, () -> x.at(slot, stay, 0));
            }
            Check.due("its end", 1000 * slot + 700, () -> x.at(slot, 6, 2));
            Check.due("no eighth stay", INDEX, () -> x.at(slot, 7, 0));
        }
        Check.due("no conflicts", 0, () -> x.count(5));
        Check.due("all ended on the last piece", 30, () -> x.close(6, 0, 100000));
    }

    /** "GIVEN, then ENDED (by a closed span, or taken back)" */
    private static void endedBarNone() {
        ChannelRules x = Harbours.one();
        x.ask(0, 0, 1, 100);
        x.ask(0, 0, 1, 200);
        Check.due("with the first", -8, () -> x.ask(0, 0, 1, 100));
        x.back(1);
        Check.due("it was taken back", 3, () -> x.ask(0, 0, 1, 100));
        Check.due("with the second", -8, () -> x.ask(0, 0, 1, 200));
        x.close(0, 209, 210);
        Check.due("it was ended by a span", 4, () -> x.ask(0, 0, 1, 199));
    }

    /** "of a GIVEN slot of another ship or the same one" */
    private static void sameShip() {
        ChannelRules x = Harbours.one();
        x.ship(8, 1, 0);
        x.ask(0, 0, 1, 100);
        Check.due("another ship", -8, () -> x.ask(1, 0, 1, 100));
        Check.due("the same ship", -8, () -> x.ask(0, 0, 1, 100));
        x.rule(0, 3, 1);
        Check.due("the same ship towards itself", -7, () -> x.ask(0, 1, 0, 105));
    }

    /** "(but itself)" */
    private static void butItself() {
        ChannelRules x = new ChannelRules();
        x.piece(0, 1, 10, 20);
        x.ship(8, 1, 2);
        x.ask(0, 0, 1, 100);
        Check.due("a dangerous one is moved by a minute", 1, () -> x.change(1, 101));
        Check.due("and back", 1, () -> x.change(1, 100));
        x.ask(0, 0, 1, 111);
        Check.due("but not into another one", 0, () -> x.change(1, 102));
        Check.due("up to the other one", 1, () -> x.change(1, 101));
    }

    /** "RULES told later .. do not end slots: GIVEN slots .. stay, and are told as conflicts." */
    private static void rulesEndNone() {
        ChannelRules x = new ChannelRules();
        x.piece(0, 1, 10, 20);
        x.ship(8, 1, 1);
        x.ask(0, 0, 1, 100);
        x.ask(0, 1, 0, 105);
        x.rule(0, 0, 2);
        x.rule(0, 1, 1);
        Check.due("rules of one stay are no conflicts", 0, () -> x.count(5));
        x.rule(0, 3, 1);
        Check.due("both stay GIVEN", 2, () -> x.count(3));
        Check.due("a conflict is told", 1, () -> x.count(5));
        Check.due("a meeting", 6, () -> x.conflict(0, 3));
    }

    /** "or WIND, do not end slots" */
    private static void windEndsNone() {
        ChannelRules x = Harbours.one();
        x.ask(0, 0, 1, 100);
        x.rule(0, 2, 0);
        x.wind(true);
        Check.due("it stays GIVEN", 1, () -> x.count(21));
        Check.due("no conflict of two", 0, () -> x.count(5));
        Check.due("it can't be moved", 0, () -> x.change(1, 200));
        Check.due("it stays where it was", 100, () -> x.at(1, 0, 1));
    }

    /** "Of several exceptions the one told first is thrown." */
    private static void exceptionToldFirst() {
        ChannelRules x = Harbours.full();
        for (int i = 1; i < 12; i++) {
            x.piece(0, 1, 5, 5);
            x.ship(5, 5, 0);
        }
        for (int i = 0; i < 4; i++) {
            x.close(0, 10, 20);
        }
        Check.due("a 13th piece", STATE, () -> x.piece(0, 1, 5, 5));
        Check.due("a wrong 13th piece", ARGUMENT, () -> x.piece(0, 1, 5, 0));
        Check.due("a 13th ship", STATE, () -> x.ship(5, 5, 0));
        Check.due("a wrong 13th ship", ARGUMENT, () -> x.ship(5, 5, 3));
        Check.due("a 31st slot", STATE, () -> x.ask(0, 0, 1, 0));
        Check.due("a wrong 31st slot", ARGUMENT, () -> x.ask(12, 0, 1, 0));
        Check.due("a 5th span", STATE, () -> x.close(0, 30, 40));
        Check.due("a wrong 5th span", ARGUMENT, () -> x.close(0, 40, 40));
    }

    /** "An object is used for at most 512 calls after it has been made" */
    private static void manyCalls() {
        ChannelRules x = Harbours.one();
        x.ask(0, 0, 1, 5000);
        for (int call = 4; call <= 511; call++) {
            int time = call;
            Check.due("call " + call, 1, () -> x.change(1, 5000 + 50 * time));
        }
        Check.due("call 512", 5000 + 50 * 511, () -> x.at(1, 0, 1));
    }
}
