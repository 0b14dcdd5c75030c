/** Each promise of the document by hand-made calls: ordinary ones, its edges, wrong inputs. */
public final class PromisesTest {
    private static final int NONE = ChannelRules.NONE;
    private static final int ARGUMENT = Check.ARGUMENT;
    private static final int STATE = Check.STATE;
    private static final int INDEX = Check.INDEX;
    private static final int LEAST = Integer.MIN_VALUE;
    private static final int MOST = Integer.MAX_VALUE;

    private PromisesTest() {
    }

    public static void main(String[] args) {
        newObject();
        piece();
        ruleAnswers();
        ruleFirstValues();
        wind();
        ship();
        route();
        routeTies();
        ask();
        askWrong();
        askLeastOfFirstStay();
        barredByPiece();
        night();
        meeting();
        overtaking();
        overtakenByFast();
        dangerous();
        earliest();
        earliestPastSeveral();
        earliestWithin();
        change();
        changeKeepsStays();
        back();
        close();
        closeWrong();
        tick();
        conflict();
        conflictOrder();
        at();
        count();
        Check.end();
    }

    /** Piece 0 of length 10 and width 20 from point 0 to 1; ships of widths 8, 8 and 13. */
    private static ChannelRules harbour() {
        ChannelRules x = new ChannelRules();
        x.piece(0, 1, 10, 20);
        x.ship(8, 1, 0);
        x.ship(8, 2, 1);
        x.ship(13, 1, 0);
        return x;
    }

    private static void newObject() {
        ChannelRules x = new ChannelRules();
        for (int what = 0; what <= 6; what++) {
            int asked = what;
            Check.due("new: count(" + what + ")", 0, () -> x.count(asked));
        }
        Check.due("new: count(21)", NONE, () -> x.count(21));
        Check.due("new: rule of no piece", false, () -> x.rule(0, 0, 0));
        Check.due("new: route of no ship", ARGUMENT, () -> x.route(0, 0, 1, 0));
        Check.due("new: conflict(0, 0)", NONE, () -> x.conflict(0, 0));
        Check.due("new: at(1, 0, 0)", INDEX, () -> x.at(1, 0, 0));
        Check.due("NONE", -1, () -> ChannelRules.NONE);
        ChannelRules other = harbour();
        Check.due("new: pieces are its own", 0, () -> x.count(0));
        Check.due("new: other pieces", 1, () -> other.count(0));
    }

    private static void piece() {
        ChannelRules x = new ChannelRules();
        int[][] wrong = {
            {-1, 1, 5, 5}, {8, 1, 5, 5}, {0, -1, 5, 5}, {0, 8, 5, 5}, {3, 3, 5, 5},
            {0, 1, 0, 5}, {0, 1, 101, 5}, {0, 1, 5, 0}, {0, 1, 5, 101},
            {LEAST, 1, 5, 5}, {0, MOST, 5, 5}, {0, 1, LEAST, 5}, {0, 1, 5, MOST},
        };
        for (int[] w : wrong) {
            Check.due("piece: wrong", ARGUMENT, () -> x.piece(w[0], w[1], w[2], w[3]));
        }
        Check.due("piece: none from wrong ones", 0, () -> x.count(0));
        Check.due("piece: least", 0, () -> x.piece(0, 7, 1, 1));
        Check.due("piece: most", 1, () -> x.piece(7, 0, 100, 100));
        for (int i = 2; i < 12; i++) {
            int number = i;
            Check.due("piece: number", number, () -> x.piece(0, 1, 5, 5));
        }
        Check.due("piece: a 13th", STATE, () -> x.piece(0, 1, 5, 5));
        Check.due("piece: a wrong 13th", ARGUMENT, () -> x.piece(0, 0, 5, 5));
        Check.due("piece: 12 at most", 12, () -> x.count(0));
        Check.due("rule: of the last", true, () -> x.rule(11, 4, 1));
        Check.due("rule: behind the last", false, () -> x.rule(12, 4, 1));
    }

    private static void ruleAnswers() {
        ChannelRules x = harbour();
        int[] greatest = {2, 2, 100, 1, 1};
        for (int k = 0; k < greatest.length; k++) {
            int kind = k;
            int most = greatest[k];
            Check.due("rule: kind " + k + " greatest", true, () -> x.rule(0, kind, most));
            Check.due("rule: kind " + k + " above", false, () -> x.rule(0, kind, most + 1));
            Check.due("rule: kind " + k + " below", false, () -> x.rule(0, kind, -1));
            Check.due("rule: kind " + k + " least", true, () -> x.rule(0, kind, 0));
            Check.due("rule: kind " + k + " again", true, () -> x.rule(0, kind, 0));
        }
        Check.due("rule: kind -1", false, () -> x.rule(0, -1, 0));
        Check.due("rule: kind 5", false, () -> x.rule(0, 5, 0));
        Check.due("rule: kind least", false, () -> x.rule(0, LEAST, 0));
        Check.due("rule: kind most", false, () -> x.rule(0, MOST, 0));
        Check.due("rule: piece -1", false, () -> x.rule(-1, 0, 0));
        Check.due("rule: piece 1", false, () -> x.rule(1, 0, 0));
        Check.due("rule: piece most", false, () -> x.rule(MOST, 4, 1));
    }

    private static void ruleFirstValues() {
        ChannelRules x = new ChannelRules();
        x.piece(0, 1, 10, 100);
        x.ship(100, 1, 2);
        x.ship(20, 2, 0);
        x.ship(20, 1, 0);
        x.wind(true);
        Check.due("rule: at first no night, no wind width", 1, () -> x.ask(0, 0, 1, 0));
        Check.due("rule: at first no one way", 2, () -> x.ask(0, 1, 0, 10));
        Check.due("rule: a plain one", 3, () -> x.ask(2, 0, 1, 20));
        Check.due("rule: at first meeting is fine", 4, () -> x.ask(1, 1, 0, 22));
        Check.due("rule: at first no overtaking", -8, () -> x.ask(1, 0, 1, 25));
        Check.due("rule: refused v", false, () -> x.rule(0, 4, 2));
        Check.due("rule: refused changes nothing", -8, () -> x.ask(1, 0, 1, 25));
        Check.due("rule: overtaking", true, () -> x.rule(0, 4, 1));
        Check.due("rule: overtaking is allowed", 5, () -> x.ask(1, 0, 1, 25));
    }

    private static void wind() {
        ChannelRules x = harbour();
        x.rule(0, 2, 12);
        Check.due("wind: none as it is", false, () -> x.wind(false));
        Check.due("wind: without it the wide one goes", 1, () -> x.ask(2, 0, 1, 0));
        Check.due("wind: comes", true, () -> x.wind(true));
        Check.due("wind: is there", 1, () -> x.count(6));
        Check.due("wind: again", false, () -> x.wind(true));
        Check.due("wind: wider", -4, () -> x.ask(2, 0, 1, 500));
        Check.due("wind: never free by it", NONE, () -> x.earliest(2, 0, 1, 500));
        Check.due("wind: the given slot stays", 1, () -> x.count(21));
        Check.due("wind: narrower", 2, () -> x.ask(0, 0, 1, 500));
        x.rule(0, 2, 13);
        Check.due("wind: as wide", 3, () -> x.ask(2, 0, 1, 600));
        x.rule(0, 2, 0);
        Check.due("wind: none may", -4, () -> x.ask(0, 0, 1, 700));
        Check.due("wind: goes", true, () -> x.wind(false));
        Check.due("wind: is gone", 0, () -> x.count(6));
        Check.due("wind: free again", 4, () -> x.ask(0, 0, 1, 700));
    }

    private static void ship() {
        ChannelRules x = new ChannelRules();
        int[][] wrong = {
            {0, 1, 0}, {101, 1, 0}, {1, 0, 0}, {1, 21, 0}, {1, 1, -1}, {1, 1, 3},
            {LEAST, 1, 0}, {1, LEAST, 0}, {1, MOST, 0}, {1, 1, MOST},
        };
        for (int[] w : wrong) {
            Check.due("ship: wrong", ARGUMENT, () -> x.ship(w[0], w[1], w[2]));
        }
        Check.due("ship: none from wrong ones", 0, () -> x.count(1));
        Check.due("ship: least", 0, () -> x.ship(1, 1, 0));
        Check.due("ship: most", 1, () -> x.ship(100, 20, 2));
        for (int i = 2; i < 12; i++) {
            int number = i;
            Check.due("ship: number", number, () -> x.ship(5, 5, 1));
        }
        Check.due("ship: a 13th", STATE, () -> x.ship(5, 5, 1));
        Check.due("ship: a wrong 13th", ARGUMENT, () -> x.ship(5, 5, 3));
        Check.due("ship: 12 at most", 12, () -> x.count(1));
    }

    private static void route() {
        ChannelRules x = new ChannelRules();
        x.piece(0, 1, 10, 20);
        x.piece(2, 1, 11, 12);
        x.piece(0, 2, 100, 30);
        x.ship(12, 4, 0);
        x.ship(13, 4, 0);
        x.ship(31, 1, 0);
        Check.due("route: time is rounded up piece by piece", 6, () -> x.route(0, 0, 2, 0));
        Check.due("route: first piece", 0, () -> x.route(0, 0, 2, 1));
        Check.due("route: pieces", 2, () -> x.route(0, 0, 2, 2));
        Check.due("route: back, first piece", 1, () -> x.route(0, 2, 0, 1));
        Check.due("route: too wide for the short way", 25, () -> x.route(1, 0, 2, 0));
        Check.due("route: the long way's piece", 2, () -> x.route(1, 0, 2, 1));
        Check.due("route: the long way's pieces", 1, () -> x.route(1, 0, 2, 2));
        Check.due("route: a way round", 28, () -> x.route(1, 2, 1, 0));
        for (int w = 0; w <= 2; w++) {
            int what = w;
            Check.due("route: too wide for all", NONE, () -> x.route(2, 0, 2, what));
            Check.due("route: to itself", NONE, () -> x.route(0, 1, 1, what));
            Check.due("route: no pieces there", NONE, () -> x.route(0, 0, 7, what));
        }
        x.rule(0, 0, 2);
        x.close(1, 0, 100000);
        Check.due("route: rules and spans do not move it", 6, () -> x.route(0, 0, 2, 0));
        int[][] wrong = {
            {-1, 0, 1, 0}, {3, 0, 1, 0}, {0, -1, 1, 0}, {0, 8, 1, 0}, {0, 0, -1, 0}, {0, 0, 8, 0},
            {0, 0, 1, -1}, {0, 0, 1, 3}, {MOST, 0, 1, 0}, {0, LEAST, 1, 0}, {0, 0, 1, MOST},
            {0, 8, 8, 0}, {0, 1, 1, 3},
        };
        for (int[] w : wrong) {
            Check.due("route: wrong", ARGUMENT, () -> x.route(w[0], w[1], w[2], w[3]));
        }
    }

    private static void routeTies() {
        ChannelRules x = new ChannelRules();
        x.piece(2, 3, 5, 50);
        x.piece(0, 2, 5, 50);
        x.piece(0, 1, 5, 50);
        x.piece(1, 3, 5, 50);
        x.piece(0, 3, 10, 50);
        x.piece(0, 2, 5, 50);
        x.ship(5, 5, 0);
        Check.due("route: of equal ways the least first piece", 1, () -> x.route(0, 0, 3, 1));
        Check.due("route: though another has fewer pieces", 2, () -> x.route(0, 0, 3, 2));
        Check.due("route: time of equal ways", 2, () -> x.route(0, 0, 3, 0));
        Check.due("route: the other way, its own least piece", 0, () -> x.route(0, 3, 0, 1));
        Check.due("route: a slot on it", 1, () -> x.ask(0, 3, 0, 0));
        Check.due("route: its second piece", 1, () -> x.at(1, 1, 0));
        for (int i = 0; i < 6; i++) {
            int point = i;
            ChannelRules chain = chain();
            Check.due("route: the long chain", 7 - point, () -> chain.route(0, point, 7, 2));
            Check.due("route: its time", 700 - 100 * point, () -> chain.route(0, point, 7, 0));
        }
    }

    /** All eight points in a row, told from the far end, so that a route has seven pieces. */
    private static ChannelRules chain() {
        ChannelRules x = new ChannelRules();
        for (int point = 7; point > 0; point--) {
            x.piece(point - 1, point, 100, 10);
        }
        x.ship(10, 1, 0);
        return x;
    }

    private static void ask() {
        ChannelRules x = harbour();
        Check.due("ask: the first", 1, () -> x.ask(0, 0, 1, 50));
        Check.due("ask: same ship, same time", -8, () -> x.ask(0, 0, 1, 50));
        Check.due("ask: refused gives no slot", 1, () -> x.count(2));
        Check.due("ask: same direction behind it", 2, () -> x.ask(0, 0, 1, 51));
        Check.due("ask: too wide together, but no overtaking", 3, () -> x.ask(2, 0, 1, 52));
        Check.due("ask: too wide for meeting", -7, () -> x.ask(2, 1, 0, 55));
        Check.due("ask: when all have left", 4, () -> x.ask(2, 1, 0, 62));
        Check.due("ask: to itself", 0, () -> x.ask(0, 1, 1, 50));
        Check.due("ask: no way", 0, () -> x.ask(0, 0, 5, 50));
        x.back(4);
        Check.due("ask: ENDED ones bar none", 5, () -> x.ask(2, 1, 0, 62));
        ChannelRules chain = chain();
        Check.due("ask: a slot of seven stays", 1, () -> chain.ask(0, 0, 7, 100000));
        Check.due("ask: the last leaves beyond all times", 100700, () -> chain.at(1, 6, 2));
        Check.due("ask: another of seven stays", 2, () -> chain.ask(0, 7, 0, 50));
        Check.due("ask: a third", 3, () -> chain.ask(0, 0, 7, 1000));
        for (int i = 0; i < 7; i++) {
            int stay = i;
            Check.due("ask: its pieces", stay, () -> chain.at(2, stay, 0));
            Check.due("ask: enters them", 50 + 100 * stay, () -> chain.at(2, stay, 1));
            Check.due("ask: leaves them", 150 + 100 * stay, () -> chain.at(2, stay, 2));
            Check.due("ask: backward", 0, () -> chain.at(2, stay, 3));
            Check.due("ask: the third's pieces", 6 - stay, () -> chain.at(3, stay, 0));
            Check.due("ask: the third enters", 1000 + 100 * stay, () -> chain.at(3, stay, 1));
        }
    }

    private static void askWrong() {
        ChannelRules x = harbour();
        x.tick(10);
        int[][] wrong = {
            {-1, 0, 1, 50}, {3, 0, 1, 50}, {0, -1, 1, 50}, {0, 8, 1, 50}, {0, 0, -1, 50},
            {0, 0, 8, 50}, {0, 0, 1, 9}, {0, 0, 1, 100001}, {0, 0, 1, -1}, {0, 0, 1, LEAST},
            {0, 0, 1, MOST}, {MOST, 0, 1, 50}, {0, 1, 1, 9},
        };
        for (int[] w : wrong) {
            Check.due("ask: wrong", ARGUMENT, () -> x.ask(w[0], w[1], w[2], w[3]));
            Check.due("earliest: wrong", ARGUMENT, () -> x.earliest(w[0], w[1], w[2], w[3]));
        }
        Check.due("ask: at NOW", 1, () -> x.ask(0, 0, 1, 10));
        Check.due("ask: at the last time", 2, () -> x.ask(0, 0, 1, 100000));
        for (int i = 3; i <= 30; i++) {
            int number = i;
            Check.due("ask: number", number, () -> x.ask(0, 0, 1, 1000 * number));
        }
        Check.due("back: one of 30", true, () -> x.back(30));
        Check.due("ask: a 31st, ENDED ones count", STATE, () -> x.ask(0, 0, 1, 50000));
        Check.due("ask: a 31st without a route", STATE, () -> x.ask(0, 0, 5, 50000));
        Check.due("ask: a barred 31st", STATE, () -> x.ask(0, 0, 1, 10));
        Check.due("ask: a wrong 31st", ARGUMENT, () -> x.ask(0, 0, 1, 9));
        Check.due("earliest: with 30", 11, () -> x.earliest(0, 0, 1, 10));
        Check.due("change: with 30", 1, () -> x.change(29, 50000));
    }

    private static void askLeastOfFirstStay() {
        ChannelRules x = new ChannelRules();
        x.piece(0, 1, 10, 20);
        x.piece(1, 2, 10, 20);
        x.ship(8, 1, 2);
        x.ship(8, 2, 0);
        x.ship(15, 1, 0);
        Check.due("ask: a wide one", 1, () -> x.ask(2, 1, 0, 50));
        Check.due("ask: a dangerous one", 2, () -> x.ask(0, 1, 2, 50));
        Check.due("ask: of the first stay, though the second has a less", -7,
            () -> x.ask(1, 0, 2, 50));
        Check.due("ask: of the second stay alone", -6, () -> x.ask(1, 0, 2, 45));
        Check.due("ask: the least of several slots", 3, () -> x.ask(1, 1, 0, 300));
        Check.due("ask: overtaking alone", -8, () -> x.ask(2, 1, 0, 296));
        Check.due("ask: meeting alone", -7, () -> x.ask(2, 0, 1, 296));
        Check.due("ask: a dangerous one at the end", 4, () -> x.ask(0, 1, 0, 305));
        Check.due("ask: overtaking and dangerous", -6, () -> x.ask(2, 1, 0, 296));
        x.wind(true);
        x.rule(0, 2, 14);
        Check.due("ask: wind before dangerous", -4, () -> x.ask(2, 1, 0, 296));
        x.close(0, 305, 306);
        Check.due("ask: wind before closed", -4, () -> x.ask(2, 1, 0, 296));
        x.rule(0, 2, 15);
        Check.due("ask: closed before overtaking", -5, () -> x.ask(2, 1, 0, 296));
        x.rule(0, 1, 2);
        Check.due("ask: night before closed", -3, () -> x.ask(0, 1, 0, 296));
        x.rule(0, 0, 1);
        Check.due("ask: one way before night", -2, () -> x.ask(0, 1, 0, 296));
    }

    private static void barredByPiece() {
        ChannelRules x = harbour();
        x.rule(0, 0, 1);
        Check.due("one way: forward alone, backward", -2, () -> x.ask(0, 1, 0, 0));
        Check.due("one way: never", NONE, () -> x.earliest(0, 1, 0, 0));
        Check.due("one way: forward alone, forward", 1, () -> x.ask(0, 0, 1, 0));
        x.rule(0, 0, 2);
        Check.due("one way: the given slot stays", 1, () -> x.count(21));
        Check.due("one way: backward alone, forward", -2, () -> x.ask(0, 0, 1, 20));
        Check.due("one way: backward alone, backward", 2, () -> x.ask(0, 1, 0, 20));
        x.rule(0, 0, 0);
        Check.due("one way: none", 3, () -> x.ask(0, 0, 1, 40));
        x.close(0, 100, 110);
        Check.due("closed: its last minute", -5, () -> x.ask(0, 0, 1, 109));
        Check.due("closed: behind its end", 4, () -> x.ask(0, 0, 1, 110));
        Check.due("closed: its first minute", -5, () -> x.ask(0, 0, 1, 91));
        Check.due("closed: ahead of it", 5, () -> x.ask(0, 0, 1, 90));
    }

    private static void night() {
        ChannelRules x = new ChannelRules();
        x.piece(0, 1, 10, 100);
        x.ship(10, 1, 0);
        x.ship(10, 1, 1);
        x.ship(10, 1, 2);
        x.rule(0, 1, 2);
        Check.due("night: class 1 below the barred", 1, () -> x.ask(1, 0, 1, 0));
        Check.due("night: class 2 barred", -3, () -> x.ask(2, 0, 1, 290));
        x.rule(0, 1, 1);
        Check.due("night: class 0 is never", 2, () -> x.ask(0, 0, 1, 20));
        Check.due("night: class 1 barred", -3, () -> x.ask(1, 0, 1, 100));
        Check.due("night: its last minute", -3, () -> x.ask(1, 0, 1, 299));
        Check.due("night: behind it", 3, () -> x.ask(1, 0, 1, 300));
        Check.due("night: leaves when it comes", 4, () -> x.ask(1, 0, 1, 1190));
        Check.due("night: its first minute", -3, () -> x.ask(1, 0, 1, 1191));
        Check.due("night: in the evening", -3, () -> x.ask(1, 0, 1, 1439));
        Check.due("night: over midnight", -3, () -> x.ask(1, 0, 1, 1435));
        Check.due("night: the next day's", -3, () -> x.ask(1, 0, 1, 1739));
        Check.due("night: the next day", 5, () -> x.ask(1, 0, 1, 1740));
        Check.due("night: far days", -3, () -> x.ask(1, 0, 1, 1440 * 50 + 1191));
        Check.due("night: far days' last stay", 6, () -> x.ask(1, 0, 1, 1440 * 50 + 1190));
        Check.due("night: earliest from the evening", 3180, () -> x.earliest(1, 0, 1, 2631));
        x.rule(0, 1, 0);
        Check.due("night: none barred any more", 7, () -> x.ask(1, 0, 1, 100));
    }

    private static void meeting() {
        ChannelRules x = harbour();
        x.ship(12, 1, 0);
        x.ask(0, 0, 1, 100);
        Check.due("meeting: widths as the piece's", 2, () -> x.ask(3, 1, 0, 105));
        Check.due("meeting: widths above", -7, () -> x.ask(2, 1, 0, 109));
        Check.due("meeting: in the first's last minute, then none", 3, () -> x.ask(2, 1, 0, 115));
        x.rule(0, 3, 1);
        Check.due("meeting: barred", -7, () -> x.ask(1, 1, 0, 109));
        Check.due("meeting: barred, but not with one gone the same way", 4,
            () -> x.ask(1, 1, 0, 126));
        Check.due("meeting: enters as the other leaves", 5, () -> x.ask(1, 0, 1, 131));
    }

    private static void overtaking() {
        ChannelRules x = harbour();
        x.ship(12, 2, 0);
        x.ask(0, 0, 1, 100);
        Check.due("overtaking: leaves earlier", -8, () -> x.ask(1, 0, 1, 104));
        Check.due("overtaking: leaves at one time", -8, () -> x.ask(1, 0, 1, 105));
        Check.due("overtaking: enters at one time", -8, () -> x.ask(1, 0, 1, 100));
        Check.due("overtaking: leaves later", 2, () -> x.ask(1, 0, 1, 106));
        Check.due("overtaking: a slow one asked for ahead of a fast one", -8,
            () -> x.ask(0, 0, 1, 105));
        Check.due("overtaking: it leaves with the fast one", -8, () -> x.ask(0, 0, 1, 101));
        x.rule(0, 4, 1);
        Check.due("overtaking: allowed, widths as the piece's", 3, () -> x.ask(3, 0, 1, 104));
        Check.due("overtaking: allowed, widths above", -8, () -> x.ask(2, 0, 1, 100));
        x.back(2);
        x.back(3);
        Check.due("overtaking: allowed, same times", 4, () -> x.ask(0, 0, 1, 100));
        x.rule(0, 3, 1);
        Check.due("overtaking: is no meeting", 5, () -> x.ask(0, 0, 1, 100));
    }

    private static void overtakenByFast() {
        ChannelRules x = harbour();
        x.ask(1, 0, 1, 100);
        Check.due("overtaking: a slow one enters with it", -8, () -> x.ask(0, 0, 1, 100));
        Check.due("overtaking: a slow one leaves with it", -8, () -> x.ask(0, 0, 1, 95));
        Check.due("overtaking: a slow one round it", -8, () -> x.ask(0, 0, 1, 97));
        Check.due("overtaking: a slow one behind it", 2, () -> x.ask(0, 0, 1, 101));
        Check.due("overtaking: a slow one ahead of it", 3, () -> x.ask(0, 0, 1, 94));
    }

    private static void dangerous() {
        ChannelRules x = new ChannelRules();
        x.piece(0, 1, 10, 100);
        x.piece(1, 2, 10, 100);
        x.ship(10, 1, 0);
        x.ship(10, 1, 2);
        x.rule(0, 4, 1);
        Check.due("dangerous: first", 1, () -> x.ask(1, 0, 2, 100));
        Check.due("dangerous: a plain one behind", -6, () -> x.ask(0, 0, 1, 105));
        Check.due("dangerous: a plain one towards it", -6, () -> x.ask(0, 1, 0, 91));
        Check.due("dangerous: a plain one when it has left", 2, () -> x.ask(0, 0, 1, 110));
        Check.due("dangerous: on another piece", 3, () -> x.ask(0, 2, 1, 95));
        Check.due("dangerous: behind a plain one", -6, () -> x.ask(1, 1, 0, 119));
        Check.due("dangerous: two of them", -6, () -> x.ask(1, 0, 1, 101));
        Check.due("dangerous: alone again", 4, () -> x.ask(1, 1, 0, 120));
    }

    private static void earliest() {
        ChannelRules x = harbour();
        x.ask(0, 0, 1, 100);
        Check.due("earliest: at once", 90, () -> x.earliest(2, 1, 0, 90));
        Check.due("earliest: behind the other", 110, () -> x.earliest(2, 1, 0, 91));
        Check.due("earliest: when it is not overtaking", 106, () -> x.earliest(1, 0, 1, 100));
        Check.due("earliest: a slow one, too wide beside it", 101, () -> x.earliest(2, 0, 1, 100));
        Check.due("earliest: gives no slot", 1, () -> x.count(2));
        Check.due("earliest: without a route", NONE, () -> x.earliest(0, 0, 5, 0));
        Check.due("earliest: to itself", NONE, () -> x.earliest(0, 1, 1, 0));
        Check.due("earliest: the last time", 100000, () -> x.earliest(0, 0, 1, 100000));
        Check.due("ask: the last time", 2, () -> x.ask(0, 0, 1, 100000));
        Check.due("earliest: none beyond the last time", NONE, () -> x.earliest(0, 0, 1, 100000));
        Check.due("earliest: ahead of the last time", 99999, () -> x.earliest(0, 0, 1, 99999));
        x.rule(0, 0, 1);
        Check.due("earliest: never by the one way", NONE, () -> x.earliest(0, 1, 0, 0));
    }

    private static void earliestPastSeveral() {
        ChannelRules x = harbour();
        x.piece(1, 2, 10, 20);
        x.ship(5, 1, 2);
        x.ask(0, 0, 1, 400);
        x.ask(2, 2, 1, 425);
        x.ask(0, 0, 1, 430);
        Check.due("earliest: a gap too short, then behind all", 440,
            () -> x.earliest(3, 0, 2, 391));
        Check.due("earliest: ahead of all", 390, () -> x.earliest(3, 0, 1, 390));
        x.close(1, 455, 465);
        Check.due("earliest: its second stay behind the span", 455, () -> x.earliest(3, 0, 2, 391));
        x.rule(1, 1, 2);
        Check.due("earliest: both stays by day", 455, () -> x.earliest(3, 0, 2, 391));
        Check.due("earliest: the second stay would be at night", 1440 + 290,
            () -> x.earliest(3, 0, 2, 1181));
        Check.due("earliest: the second stay ends as night comes", 1180,
            () -> x.earliest(3, 0, 2, 1180));
        x.wind(true);
        x.rule(1, 2, 4);
        Check.due("earliest: never in this wind", NONE, () -> x.earliest(3, 0, 2, 391));
    }

    private static void earliestWithin() {
        ChannelRules x = harbour();
        x.close(0, 1000, 5000);
        Check.due("earliest: 2880 later", 5000, () -> x.earliest(0, 0, 1, 2120));
        Check.due("earliest: 2881 later", NONE, () -> x.earliest(0, 0, 1, 2119));
        Check.due("earliest: ahead of the span", 990, () -> x.earliest(0, 0, 1, 990));
        x.close(0, 99000, 100000);
        Check.due("earliest: as the span ends", 100000, () -> x.earliest(0, 0, 1, 98991));
    }

    private static void change() {
        ChannelRules x = harbour();
        x.ask(0, 0, 1, 100);
        x.ask(2, 1, 0, 200);
        int[][] wrong = {{0, 50}, {3, 50}, {-1, 50}, {MOST, 50}, {1, 100001}, {1, -1}, {1, MOST}};
        for (int[] w : wrong) {
            Check.due("change: wrong", ARGUMENT, () -> x.change(w[0], w[1]));
        }
        Check.due("change: with the other on its way", 0, () -> x.change(1, 195));
        Check.due("change: refused, as before", 100, () -> x.at(1, 0, 1));
        Check.due("change: not barred by itself", 1, () -> x.change(1, 105));
        Check.due("change: enters", 105, () -> x.at(1, 0, 1));
        Check.due("change: leaves", 115, () -> x.at(1, 0, 2));
        Check.due("change: to the same time", 1, () -> x.change(1, 105));
        Check.due("change: its old time is left", 3, () -> x.ask(2, 1, 0, 95));
        Check.due("change: to the last time", 1, () -> x.change(2, 100000));
        x.tick(94);
        Check.due("change: before NOW", ARGUMENT, () -> x.change(1, 93));
        Check.due("change: a minute ahead", 1, () -> x.change(3, 94));
        Check.due("change: begins at NOW, under way", -1, () -> x.change(3, 150));
        x.tick(200);
        Check.due("change: gone long ago", -1, () -> x.change(1, 300));
        Check.due("change: gone, and a wrong time", ARGUMENT, () -> x.change(1, 199));
        x.back(2);
        Check.due("change: ENDED", -1, () -> x.change(2, 300));
        Check.due("change: ENDED, and a wrong time", ARGUMENT, () -> x.change(2, 199));
    }

    private static void changeKeepsStays() {
        ChannelRules x = harbour();
        x.piece(1, 2, 10, 20);
        x.ask(0, 0, 2, 100);
        x.piece(0, 2, 1, 50);
        Check.due("change: a shorter way has come", 1, () -> x.route(0, 0, 2, 0));
        Check.due("change: by the same stays", 1, () -> x.change(1, 300));
        Check.due("change: first piece", 0, () -> x.at(1, 0, 0));
        Check.due("change: second piece", 1, () -> x.at(1, 1, 0));
        Check.due("change: second leaves", 320, () -> x.at(1, 1, 2));
        x.rule(1, 0, 2);
        Check.due("change: barred by a later rule", 0, () -> x.change(1, 400));
        Check.due("change: barred even at its own time", 0, () -> x.change(1, 300));
        Check.due("change: it stays given", 1, () -> x.count(21));
    }

    private static void back() {
        ChannelRules x = harbour();
        x.ask(0, 0, 1, 100);
        x.ask(0, 0, 1, 200);
        int[] wrong = {0, 3, -1, LEAST, MOST};
        for (int slot : wrong) {
            Check.due("back: no such slot", false, () -> x.back(slot));
        }
        x.tick(99);
        Check.due("back: a minute ahead", true, () -> x.back(1));
        Check.due("back: it is ENDED", 0, () -> x.count(21));
        Check.due("back: again", false, () -> x.back(1));
        Check.due("back: one less given", 1, () -> x.count(3));
        x.tick(200);
        Check.due("back: begins at NOW", false, () -> x.back(2));
        x.tick(5000);
        Check.due("back: gone long ago", false, () -> x.back(2));
        Check.due("back: time alone ends none", 1, () -> x.count(22));
    }

    private static void close() {
        ChannelRules x = harbour();
        x.piece(1, 2, 10, 20);
        x.ask(0, 0, 2, 100);
        x.ask(0, 0, 2, 105);
        x.ask(0, 0, 1, 130);
        x.ask(0, 0, 2, 200);
        Check.due("close: up to when it enters", 0, () -> x.close(1, 105, 110));
        Check.due("close: from when all have left", 0, () -> x.close(1, 125, 130));
        Check.due("close: the last minute of one", 1, () -> x.close(1, 124, 126));
        Check.due("close: it is ENDED", 0, () -> x.count(22));
        Check.due("close: the other is not", 1, () -> x.count(21));
        Check.due("close: ENDED ones do not count again", 0, () -> x.close(1, 120, 121));
        x.back(4);
        Check.due("close: nor those taken back", 0, () -> x.close(0, 200, 201));
        x.tick(104);
        Check.due("close: two, one under way", 2, () -> x.close(0, 104, 131));
        Check.due("close: the last slot given", 5, () -> x.ask(0, 0, 1, 300));
        Check.due("close: ends it", 1, () -> x.close(0, 309, 400));
        Check.due("close: none given", 0, () -> x.count(3));
        Check.due("close: ENDED ones bar none, the spans do", -5, () -> x.ask(0, 0, 1, 130));
        Check.due("close: behind the span", 6, () -> x.ask(0, 0, 1, 131));
    }

    private static void closeWrong() {
        ChannelRules x = harbour();
        x.ask(0, 0, 1, 100);
        x.tick(10);
        int[][] wrong = {
            {-1, 20, 30}, {1, 20, 30}, {MOST, 20, 30}, {0, 9, 30}, {0, 20, 20}, {0, 30, 20},
            {0, 20, 100001}, {0, 100001, 100002}, {0, LEAST, MOST}, {0, -1, 30}, {0, 100, 0},
        };
        for (int[] w : wrong) {
            Check.due("close: wrong", ARGUMENT, () -> x.close(w[0], w[1], w[2]));
        }
        Check.due("close: from NOW on", 0, () -> x.close(0, 10, 11));
        Check.due("close: up to the last time", 0, () -> x.close(0, 99999, 100000));
        Check.due("close: the same again", 0, () -> x.close(0, 10, 11));
        Check.due("close: a fourth", 0, () -> x.close(0, 10, 20));
        Check.due("close: a fifth", STATE, () -> x.close(0, 100, 200));
        Check.due("close: a wrong fifth", ARGUMENT, () -> x.close(0, 200, 100));
        Check.due("close: refused ends none", 1, () -> x.count(21));
        Check.due("close: refused closes nothing", 2, () -> x.ask(0, 0, 1, 150));
        x.tick(50000);
        Check.due("close: spans behind it are still its own", STATE,
            () -> x.close(0, 60000, 60001));
        x.piece(1, 2, 10, 10);
        Check.due("close: another piece has its own", 0, () -> x.close(1, 60000, 60001));
    }

    private static void tick() {
        ChannelRules x = harbour();
        Check.due("tick: the same", true, () -> x.tick(0));
        Check.due("tick: on", true, () -> x.tick(10));
        Check.due("tick: NOW", 10, () -> x.count(4));
        Check.due("tick: again", true, () -> x.tick(10));
        Check.due("tick: before", false, () -> x.tick(9));
        Check.due("tick: below all", false, () -> x.tick(-1));
        Check.due("tick: least", false, () -> x.tick(LEAST));
        Check.due("tick: above all", false, () -> x.tick(100001));
        Check.due("tick: most", false, () -> x.tick(MOST));
        Check.due("tick: refused changes nothing", 10, () -> x.count(4));
        Check.due("tick: the last", true, () -> x.tick(100000));
        Check.due("tick: is NOW", 100000, () -> x.count(4));
    }

    private static void conflict() {
        ChannelRules x = harbour();
        x.rule(0, 4, 1);
        x.ask(0, 0, 1, 100);
        x.ask(1, 0, 1, 103);
        x.ask(1, 1, 0, 108);
        Check.due("conflict: none", NONE, () -> x.conflict(0, 0));
        Check.due("conflict: none counted", 0, () -> x.count(5));
        x.rule(0, 4, 0);
        Check.due("conflict: overtaking counted", 1, () -> x.count(5));
        int[] due = {1, 2, 0, 7};
        for (int s = 0; s < due.length; s++) {
            int side = s;
            Check.due("conflict: overtaking", due[s], () -> x.conflict(0, side));
            Check.due("conflict: behind the last", NONE, () -> x.conflict(1, side));
            Check.due("conflict: most", NONE, () -> x.conflict(MOST, side));
            Check.due("conflict: below", NONE, () -> x.conflict(-1, side));
            Check.due("conflict: least", NONE, () -> x.conflict(LEAST, side));
        }
        Check.due("conflict: side -1", ARGUMENT, () -> x.conflict(0, -1));
        Check.due("conflict: side 4", ARGUMENT, () -> x.conflict(0, 4));
        Check.due("conflict: side 4 of none", ARGUMENT, () -> x.conflict(-1, 4));
        x.rule(0, 3, 1);
        Check.due("conflict: a meeting, too", 2, () -> x.count(5));
        Check.due("conflict: its greater slot", 3, () -> x.conflict(1, 1));
        Check.due("conflict: which", 6, () -> x.conflict(1, 3));
        x.rule(0, 0, 1);
        Check.due("conflict: barred ones are none", 2, () -> x.count(5));
        x.tick(500);
        Check.due("conflict: time ends none", 2, () -> x.count(5));
        x.rule(0, 4, 1);
        x.rule(0, 3, 0);
        Check.due("conflict: the rules are gone", 0, () -> x.count(5));
    }

    private static void conflictOrder() {
        ChannelRules x = new ChannelRules();
        x.piece(1, 2, 10, 20);
        x.piece(0, 1, 10, 20);
        x.piece(3, 4, 10, 20);
        x.ship(5, 1, 0);
        x.rule(0, 4, 1);
        x.rule(1, 4, 1);
        x.ask(0, 3, 4, 10);
        x.ask(0, 0, 2, 10);
        x.ask(0, 4, 3, 10);
        x.ask(0, 0, 2, 10);
        x.ask(0, 0, 2, 10);
        x.rule(0, 4, 0);
        x.rule(1, 4, 0);
        x.rule(2, 3, 1);
        int[][] due = {
            {1, 3, 2, 6}, {2, 4, 1, 7}, {2, 4, 0, 7}, {2, 5, 1, 7}, {2, 5, 0, 7},
            {4, 5, 1, 7}, {4, 5, 0, 7},
        };
        allConflicts(x, due);
        x.back(4);
        allConflicts(x, new int[][] {{1, 3, 2, 6}, {2, 5, 1, 7}, {2, 5, 0, 7}});
        x.change(5, 50);
        allConflicts(x, new int[][] {{1, 3, 2, 6}});
        x.close(2, 15, 16);
        allConflicts(x, new int[][] {});
    }

    private static void allConflicts(ChannelRules x, int[][] due) {
        Check.due("conflict: counted", due.length, () -> x.count(5));
        for (int c = 0; c < due.length; c++) {
            for (int s = 0; s < 4; s++) {
                int i = c;
                int side = s;
                Check.due("conflict(" + c + ", " + s + ")", due[c][s], () -> x.conflict(i, side));
            }
        }
        Check.due("conflict: behind the last", NONE, () -> x.conflict(due.length, 0));
    }

    private static void at() {
        ChannelRules x = harbour();
        x.piece(2, 1, 7, 20);
        x.ask(1, 0, 2, 100);
        int[][] due = {{0, 100, 105, 1}, {1, 105, 109, 0}};
        for (int s = 0; s < 2; s++) {
            for (int w = 0; w < 4; w++) {
                int i = s;
                int what = w;
                Check.due("at(1, " + s + ", " + w + ")", due[s][w], () -> x.at(1, i, what));
            }
        }
        int[][] wrong = {
            {0, 0, 0}, {2, 0, 0}, {-1, 0, 0}, {1, -1, 0}, {1, 2, 0}, {1, 0, -1}, {1, 0, 4},
            {MOST, 0, 0}, {LEAST, 0, 0}, {1, MOST, 0}, {1, LEAST, 0}, {1, 0, MOST}, {1, 0, LEAST},
            {30, 0, 0}, {31, 0, 0}, {1, 6, 0}, {1, 7, 0},
        };
        for (int[] w : wrong) {
            Check.due("at: wrong", INDEX, () -> x.at(w[0], w[1], w[2]));
        }
        x.back(1);
        Check.due("at: of an ENDED slot", 109, () -> x.at(1, 1, 2));
    }

    private static void count() {
        ChannelRules x = harbour();
        x.piece(1, 2, 10, 20);
        x.ask(0, 0, 1, 100);
        x.ask(0, 0, 1, 200);
        x.ask(0, 0, 1, 300);
        x.back(2);
        x.tick(7);
        int[] due = {2, 3, 3, 2, 7, 0, 0};
        for (int w = 0; w < due.length; w++) {
            int what = w;
            Check.due("count(" + w + ")", due[w], () -> x.count(what));
        }
        x.wind(true);
        Check.due("count(6) in wind", 1, () -> x.count(6));
        Check.due("count(21)", 1, () -> x.count(21));
        Check.due("count(22)", 0, () -> x.count(22));
        Check.due("count(23)", 1, () -> x.count(23));
        int[] none = {-1, 7, 8, 19, 20, 24, 50, 51, LEAST, MOST};
        for (int what : none) {
            Check.due("count(" + what + ")", NONE, () -> x.count(what));
        }
    }
}
