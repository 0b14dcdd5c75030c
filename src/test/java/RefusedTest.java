import java.util.ArrayList;
import java.util.List;
import java.util.function.Supplier;
import java.util.function.ToIntFunction;

/**
 * "What throws or is refused changes nothing.": each call that does is made on a new object, and
 * what that object answers behind it has to be what one without the call answers. Calls that only
 * ask (route, earliest, conflict, at, count) change nothing either.
 */
public final class RefusedTest {
    private static final int NONE = ChannelRules.NONE;
    private static final int ARGUMENT = Check.ARGUMENT;
    private static final int STATE = Check.STATE;
    private static final int INDEX = Check.INDEX;
    private static final int LEAST = Integer.MIN_VALUE;
    private static final int MOST = Integer.MAX_VALUE;

    private final Supplier<ChannelRules> harbour;
    private final String untouched;

    private RefusedTest(Supplier<ChannelRules> harbour) {
        this.harbour = harbour;
        untouched = answers(harbour.get());
    }

    public static void main(String[] args) {
        RefusedTest open = new RefusedTest(RefusedTest::openHarbour);
        open.sensesChanges();
        open.wrongMaking();
        open.wrongRules();
        open.wrongVoyages();
        open.barredSlots();
        open.refusedChanges();
        open.refusedSpansAndTimes();
        open.questions();
        RefusedTest full = new RefusedTest(RefusedTest::fullHarbour);
        full.fullMaking();
        full.questions();
        Check.end();
    }

    /**
     * Slot 1 is under way, 2 and 3 are still to begin, 4 was taken back and 5 ended by a span; 2
     * and 3 meet by a rule that came later. There is wind, and every piece has a rule.
     */
    private static ChannelRules openHarbour() {
        ChannelRules x = new ChannelRules();
        x.piece(0, 1, 40, 30);
        x.piece(1, 2, 40, 30);
        x.piece(2, 3, 40, 30);
        x.piece(3, 4, 40, 30);
        x.ship(10, 1, 0);
        x.ship(15, 4, 1);
        x.ship(5, 2, 2);
        x.ask(0, 0, 2, 380);
        x.ask(0, 0, 1, 500);
        x.ask(1, 1, 0, 520);
        x.ask(0, 1, 2, 600);
        x.ask(0, 2, 3, 700);
        x.back(4);
        x.close(2, 710, 720);
        x.rule(0, 3, 1);
        x.rule(1, 4, 1);
        x.rule(2, 1, 1);
        x.rule(3, 0, 1);
        x.rule(3, 2, 12);
        x.wind(true);
        x.tick(400);
        return x;
    }

    /** The same with all pieces, ships, slots and spans of piece 2 that there can be. */
    private static ChannelRules fullHarbour() {
        ChannelRules x = openHarbour();
        for (int i = 4; i < 12; i++) {
            x.piece(i % 7, 7, 40, 30);
        }
        for (int i = 3; i < 12; i++) {
            x.ship(i, i, 0);
        }
        for (int i = 1; i < 4; i++) {
            x.close(2, 800 + 50 * i, 820 + 50 * i);
        }
        for (int i = 6; i <= 30; i++) {
            x.ask(0, 1, 2, 1000 + 60 * i);
        }
        return x;
    }

    /** What the object answers now; the calls that change it come last. */
    private static String answers(ChannelRules x) {
        List<Integer> all = new ArrayList<>();
        for (int what = -1; what <= 7; what++) {
            all.add(x.count(what));
        }
        addSlots(all, x);
        for (int i = 0; i < 3; i++) {
            for (int side = 0; side < 4; side++) {
                all.add(x.conflict(i, side));
            }
        }
        addVoyages(all, x);
        addChanges(all, x);
        return all.toString();
    }

    private static void addSlots(List<Integer> all, ChannelRules x) {
        for (int slot = 1; slot <= x.count(2); slot++) {
            int asked = slot;
            all.add(x.count(20 + slot));
            for (int what = 0; what < 4; what++) {
                int itsWhat = what;
                all.add(Check.answer(() -> x.at(asked, 0, itsWhat)));
            }
        }
        all.add(Check.answer(() -> x.at(1, 1, 0)));
        all.add(Check.answer(() -> x.at(2, 1, 0)));
    }

    private static void addVoyages(List<Integer> all, ChannelRules x) {
        int[] times = {400, 440, 560, 690, 1195};
        for (int ship = 0; ship < 3; ship++) {
            for (int point = 0; point < 4; point++) {
                all.add(x.route(ship, point, point + 1, 0));
                for (int time : times) {
                    all.add(earliest(x, ship, point, time));
                }
            }
            all.add(x.earliest(ship, 4, 3, 500));
        }
    }

    private static int earliest(ChannelRules x, int ship, int point, int time) {
        return Check.answer(() -> x.earliest(ship, point, point + 1, time));
    }

    private static void addChanges(List<Integer> all, ChannelRules x) {
        all.add(Check.answer(() -> x.ask(0, 0, 4, 399)));
        all.add(Check.answer(() -> x.ask(0, 1, 2, 560)));
        all.add(Check.answer(() -> x.ask(2, 3, 4, 50000)));
        for (int slot = 1; slot <= 6; slot++) {
            int asked = slot;
            all.add(Check.answer(() -> x.change(asked, 60000 + 100 * asked)));
        }
        for (int slot = 1; slot <= 6; slot++) {
            all.add(x.back(slot) ? 1 : 0);
        }
        for (int piece = 0; piece < 4; piece++) {
            int asked = piece;
            for (int span = 0; span < 5; span++) {
                all.add(Check.answer(() -> x.close(asked, 400, 100000)));
            }
        }
        all.add(Check.answer(() -> x.piece(0, 1, 5, 5)));
        all.add(Check.answer(() -> x.ship(5, 5, 0)));
        all.add(x.wind(true) ? 1 : 0);
        all.add(x.tick(399) ? 1 : 0);
        all.add(x.tick(400) ? 1 : 0);
    }

    private void same(String call, int want, ToIntFunction<ChannelRules> made) {
        ChannelRules x = harbour.get();
        Check.due(call, want, () -> made.applyAsInt(x));
        Check.due(call + " changes nothing", true, () -> answers(x).equals(untouched));
    }

    private void refused(String call, java.util.function.Predicate<ChannelRules> made) {
        same(call, 0, x -> made.test(x) ? 1 : 0);
    }

    /** Without this, answers that look at too little would pass for all calls. */
    private void sensesChanges() {
        senses("piece", x -> x.piece(0, 1, 5, 5));
        senses("ship", x -> x.ship(5, 5, 0));
        senses("tick", x -> x.tick(401) ? 1 : 0);
        senses("wind", x -> x.wind(false) ? 1 : 0);
        senses("ask", x -> x.ask(0, 0, 1, 90000));
        senses("change", x -> x.change(2, 90000));
        senses("back", x -> x.back(2) ? 1 : 0);
        senses("close", x -> x.close(1, 99999, 100000));
        int[][] rules = {
            {0, 0, 1}, {1, 0, 2}, {2, 1, 0}, {3, 1, 2}, {0, 2, 9}, {3, 2, 100}, {0, 3, 0},
            {1, 4, 0},
        };
        for (int[] r : rules) {
            senses("rule of piece " + r[0] + " and kind " + r[1],
                x -> x.rule(r[0], r[1], r[2]) ? 1 : 0);
        }
    }

    private void senses(String call, ToIntFunction<ChannelRules> made) {
        ChannelRules x = harbour.get();
        made.applyAsInt(x);
        Check.due(call + " is seen", false, () -> answers(x).equals(untouched));
    }

    private void wrongMaking() {
        int[][] pieces = {
            {-1, 1, 5, 5}, {0, 8, 5, 5}, {3, 3, 5, 5}, {0, 1, 0, 5}, {0, 1, 101, 5}, {0, 1, 5, 0},
            {0, 1, 5, 101},
        };
        for (int[] p : pieces) {
            same("a wrong piece", ARGUMENT, x -> x.piece(p[0], p[1], p[2], p[3]));
        }
        int[][] ships = {{0, 5, 0}, {101, 5, 0}, {5, 0, 0}, {5, 21, 0}, {5, 5, -1}, {5, 5, 3}};
        for (int[] s : ships) {
            same("a wrong ship", ARGUMENT, x -> x.ship(s[0], s[1], s[2]));
        }
    }

    private void wrongRules() {
        int[][] rules = {
            {-1, 0, 1}, {4, 0, 1}, {12, 0, 1}, {0, -1, 1}, {0, 5, 1}, {0, 0, 3}, {0, 0, -1},
            {0, 1, 3}, {0, 2, 101}, {0, 2, -1}, {0, 3, 2}, {0, 4, 2}, {1, 4, -1}, {0, MOST, 0},
        };
        for (int[] r : rules) {
            refused("a wrong rule", x -> x.rule(r[0], r[1], r[2]));
        }
        refused("wind that there is", x -> x.wind(true));
    }

    private void wrongVoyages() {
        int[][] voyages = {
            {-1, 0, 1, 500}, {3, 0, 1, 500}, {0, -1, 1, 500}, {0, 8, 1, 500}, {0, 0, -1, 500},
            {0, 0, 8, 500}, {0, 0, 1, 399}, {0, 0, 1, 100001}, {0, 0, 1, LEAST}, {0, 0, 1, MOST},
        };
        for (int[] v : voyages) {
            same("a wrong ask", ARGUMENT, x -> x.ask(v[0], v[1], v[2], v[3]));
            same("a wrong earliest", ARGUMENT, x -> x.earliest(v[0], v[1], v[2], v[3]));
        }
        same("a route of no ship", ARGUMENT, x -> x.route(3, 0, 1, 0));
        same("a route from no point", ARGUMENT, x -> x.route(0, 8, 1, 0));
        same("a route of no what", ARGUMENT, x -> x.route(0, 0, 1, 3));
        same("a slot without a route", 0, x -> x.ask(0, 0, 7, 500));
        same("a slot to itself", 0, x -> x.ask(0, 0, 0, 500));
    }

    private void barredSlots() {
        same("by one way", -2, x -> x.ask(2, 4, 3, 500));
        same("by night", -3, x -> x.ask(1, 2, 3, 1195));
        same("by wind", -4, x -> x.ask(1, 3, 4, 500));
        same("by a span", -5, x -> x.ask(0, 2, 3, 700));
        same("by a dangerous one", -6, x -> x.ask(2, 0, 1, 500));
        same("by meeting", -7, x -> x.ask(0, 1, 0, 500));
        same("by overtaking", -8, x -> x.ask(1, 0, 1, 505));
        same("by a span on the second piece", -5, x -> x.ask(0, 1, 3, 660));
    }

    private void refusedChanges() {
        same("a change that is not FREE", 0, x -> x.change(2, 525));
        same("a change to its own time that is not FREE", 0, x -> x.change(3, 520));
        same("a change of one under way", -1, x -> x.change(1, 50000));
        same("a change of one taken back", -1, x -> x.change(4, 50000));
        same("a change of one that a span ended", -1, x -> x.change(5, 50000));
        same("a change of no slot", ARGUMENT, x -> x.change(6, 50000));
        same("a change of slot 0", ARGUMENT, x -> x.change(0, 50000));
        same("a change to before NOW", ARGUMENT, x -> x.change(2, 399));
        same("a change to above all", ARGUMENT, x -> x.change(2, 100001));
        refused("back of one under way", x -> x.back(1));
        refused("back of one taken back", x -> x.back(4));
        refused("back of one that a span ended", x -> x.back(5));
        refused("back of no slot", x -> x.back(6));
        refused("back of slot 0", x -> x.back(0));
    }

    private void refusedSpansAndTimes() {
        int[][] spans = {
            {-1, 500, 600}, {4, 500, 600}, {0, 399, 600}, {0, 500, 500}, {0, 600, 500},
            {0, 500, 100001}, {0, LEAST, MOST},
        };
        for (int[] s : spans) {
            same("a wrong span", ARGUMENT, x -> x.close(s[0], s[1], s[2]));
        }
        int[] times = {LEAST, -1, 0, 399, 100001, MOST};
        for (int time : times) {
            refused("tick(" + time + ")", x -> x.tick(time));
        }
        same("no side", ARGUMENT, x -> x.conflict(0, 4));
        same("no slot", INDEX, x -> x.at(6, 0, 0));
        same("no stay", INDEX, x -> x.at(1, 2, 0));
        same("no what", INDEX, x -> x.at(1, 0, 4));
    }

    private void questions() {
        same("a route", 80, x -> x.route(0, 0, 2, 0));
        same("no route", NONE, x -> x.route(0, 3, 3, 0));
        same("the earliest", 431, x -> x.earliest(0, 0, 1, 431));
        same("no earliest", NONE, x -> x.earliest(1, 3, 4, 400));
        same("a conflict", 6, x -> x.conflict(0, 3));
        same("no conflict", NONE, x -> x.conflict(1, 3));
        same("a stay", 420, x -> x.at(1, 1, 1));
        same("a count", 400, x -> x.count(4));
        same("NOW told again", 1, x -> x.tick(400) ? 1 : 0);
    }

    private void fullMaking() {
        same("a 13th piece", STATE, x -> x.piece(0, 1, 5, 5));
        same("a 13th ship", STATE, x -> x.ship(5, 5, 0));
        same("a 31st slot", STATE, x -> x.ask(0, 1, 2, 50000));
        same("a 5th span", STATE, x -> x.close(2, 50000, 50001));
        same("a 5th span where slots are", STATE, x -> x.close(2, 400, 100000));
        refused("a rule of a 13th piece", x -> x.rule(12, 0, 1));
    }
}
