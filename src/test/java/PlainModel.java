import java.util.ArrayList;
import java.util.List;

/**
 * A second, slow reading of the document: every simple path is walked for a route, and every
 * minute is looked at for what stays and spans have in common. An exception is answered as the
 * number that Check has for it.
 */
final class PlainModel {
    private static final class Piece {
        int a;
        int b;
        int length;
        int width;
        int[] rules = {0, 0, 100, 0, 0};
        List<int[]> spans = new ArrayList<>();
    }

    private static final class Ship {
        int width;
        int speed;
        int cls;
    }

    private static final class Stay {
        int piece;
        int enters;
        int leaves;
        boolean forward;
    }

    private static final class Slot {
        Ship ship;
        List<Stay> stays = new ArrayList<>();
        boolean given = true;
    }

    private final List<Piece> pieces = new ArrayList<>();
    private final List<Ship> ships = new ArrayList<>();
    private final List<Slot> slots = new ArrayList<>();
    private boolean wind = false;
    private int now = 0;

    int piece(int a, int b, int length, int width) {
        boolean points = a >= 0 && a <= 7 && b >= 0 && b <= 7 && a != b;
        if (!points || length < 1 || length > 100 || width < 1 || width > 100) {
            return Check.ARGUMENT;
        }
        if (pieces.size() == 12) {
            return Check.STATE;
        }
        Piece p = new Piece();
        p.a = a;
        p.b = b;
        p.length = length;
        p.width = width;
        pieces.add(p);
        return pieces.size() - 1;
    }

    int rule(int piece, int kind, int v) {
        if (piece < 0 || piece >= pieces.size() || v < 0) {
            return 0;
        }
        boolean known = (kind == 0 || kind == 1) && v <= 2
            || kind == 2 && v <= 100
            || (kind == 3 || kind == 4) && v <= 1;
        if (known) {
            pieces.get(piece).rules[kind] = v;
        }
        return known ? 1 : 0;
    }

    int wind(boolean is) {
        boolean other = is != wind;
        wind = is;
        return other ? 1 : 0;
    }

    int ship(int width, int speed, int cls) {
        if (width < 1 || width > 100 || speed < 1 || speed > 20 || cls < 0 || cls > 2) {
            return Check.ARGUMENT;
        }
        if (ships.size() == 12) {
            return Check.STATE;
        }
        Ship s = new Ship();
        s.width = width;
        s.speed = speed;
        s.cls = cls;
        ships.add(s);
        return ships.size() - 1;
    }

    private boolean wrongVoyage(int ship, int from, int to) {
        return ship < 0 || ship >= ships.size() || from < 0 || from > 7 || to < 0 || to > 7;
    }

    private boolean wrongTime(int time) {
        return time < now || time > 100000;
    }

    private static int minutes(Ship ship, Piece piece) {
        int time = 0;
        for (int gone = 0; gone < piece.length; gone += ship.speed) {
            time++;
        }
        return time;
    }

    private int timeOf(Ship ship, List<Integer> path) {
        int time = 0;
        for (int p : path) {
            time += minutes(ship, pieces.get(p));
        }
        return time;
    }

    /** The route's pieces; null without one. */
    private List<Integer> path(Ship ship, int from, int to) {
        List<List<Integer>> found = new ArrayList<>();
        if (from != to) {
            walk(ship, from, to, new boolean[8], new ArrayList<>(), found);
        }
        List<Integer> best = null;
        for (List<Integer> path : found) {
            // Paths are walked by the least piece first, so the first of equal ones is due.
            if (best == null || timeOf(ship, path) < timeOf(ship, best)) {
                best = path;
            }
        }
        return best;
    }

    private void walk(Ship ship, int point, int to, boolean[] seen, List<Integer> path,
            List<List<Integer>> found) {
        if (point == to) {
            found.add(new ArrayList<>(path));
            return;
        }
        seen[point] = true;
        for (int p = 0; p < pieces.size(); p++) {
            Piece piece = pieces.get(p);
            int next = piece.a == point ? piece.b : piece.b == point ? piece.a : -1;
            if (next >= 0 && !seen[next] && piece.width >= ship.width) {
                path.add(p);
                walk(ship, next, to, seen, path, found);
                path.remove(path.size() - 1);
            }
        }
        seen[point] = false;
    }

    int route(int ship, int from, int to, int what) {
        if (wrongVoyage(ship, from, to) || what < 0 || what > 2) {
            return Check.ARGUMENT;
        }
        List<Integer> path = path(ships.get(ship), from, to);
        if (path == null) {
            return -1;
        }
        if (what == 0) {
            return timeOf(ships.get(ship), path);
        }
        return what == 1 ? path.get(0) : path.size();
    }

    private Slot passage(Ship ship, List<Integer> path, int from, int time) {
        Slot passage = new Slot();
        passage.ship = ship;
        int point = from;
        int t = time;
        for (int p : path) {
            Stay stay = new Stay();
            stay.piece = p;
            stay.enters = t;
            t += minutes(ship, pieces.get(p));
            stay.leaves = t;
            stay.forward = pieces.get(p).a == point;
            point = stay.forward ? pieces.get(p).b : pieces.get(p).a;
            passage.stays.add(stay);
        }
        return passage;
    }

    private static boolean atNight(Stay stay) {
        for (int t = stay.enters; t < stay.leaves; t++) {
            if (t % 1440 < 300 || t % 1440 >= 1200) {
                return true;
            }
        }
        return false;
    }

    private static boolean common(Stay stay, int from, int to) {
        for (int t = stay.enters; t < stay.leaves; t++) {
            if (from <= t && t < to) {
                return true;
            }
        }
        return false;
    }

    private boolean closed(Stay stay) {
        for (int[] span : pieces.get(stay.piece).spans) {
            if (common(stay, span[0], span[1])) {
                return true;
            }
        }
        return false;
    }

    /** All that bars a stay, as bits. */
    private int barsOf(Slot passage, Stay stay) {
        int[] rules = pieces.get(stay.piece).rules;
        int bars = 0;
        if (rules[0] == 1 && !stay.forward || rules[0] == 2 && stay.forward) {
            bars |= 1 << 1;
        }
        if (rules[1] != 0 && passage.ship.cls >= rules[1] && atNight(stay)) {
            bars |= 1 << 2;
        }
        if (wind && passage.ship.width > rules[2]) {
            bars |= 1 << 3;
        }
        if (closed(stay)) {
            bars |= 1 << 4;
        }
        for (Slot slot : slots) {
            if (slot.given && slot != passage) {
                for (Stay other : slot.stays) {
                    bars |= conflictsOf(passage, stay, slot, other);
                }
            }
        }
        return bars;
    }

    private int conflictsOf(Slot passage, Stay stay, Slot slot, Stay other) {
        if (stay.piece != other.piece || !common(stay, other.enters, other.leaves)) {
            return 0;
        }
        Piece piece = pieces.get(stay.piece);
        boolean wide = passage.ship.width + slot.ship.width > piece.width;
        int found = 0;
        if (passage.ship.cls == 2 || slot.ship.cls == 2) {
            found |= 1 << 5;
        }
        if (stay.forward != other.forward && (piece.rules[3] == 1 || wide)) {
            found |= 1 << 6;
        }
        if (stay.forward == other.forward && overtakes(stay, other)
                && (piece.rules[4] == 0 || wide)) {
            found |= 1 << 7;
        }
        return found;
    }

    private static boolean overtakes(Stay one, Stay other) {
        if (one.enters == other.enters || one.leaves == other.leaves) {
            return true;
        }
        Stay first = one.enters < other.enters ? one : other;
        Stay second = first == one ? other : one;
        return !(first.leaves < second.leaves);
    }

    private int bar(Slot passage) {
        for (Stay stay : passage.stays) {
            int bars = barsOf(passage, stay);
            for (int kind = 1; kind <= 7; kind++) {
                if ((bars & 1 << kind) != 0) {
                    return kind;
                }
            }
        }
        return 0;
    }

    int ask(int ship, int from, int to, int time) {
        if (wrongVoyage(ship, from, to) || wrongTime(time)) {
            return Check.ARGUMENT;
        }
        if (slots.size() == 30) {
            return Check.STATE;
        }
        List<Integer> path = path(ships.get(ship), from, to);
        if (path == null) {
            return 0;
        }
        Slot passage = passage(ships.get(ship), path, from, time);
        int bar = bar(passage);
        if (bar != 0) {
            return -1 - bar;
        }
        slots.add(passage);
        return slots.size();
    }

    int earliest(int ship, int from, int to, int time) {
        if (wrongVoyage(ship, from, to) || wrongTime(time)) {
            return Check.ARGUMENT;
        }
        List<Integer> path = path(ships.get(ship), from, to);
        if (path == null) {
            return -1;
        }
        for (int later = 0; later <= 2880; later++) {
            int t = time + later;
            if (t <= 100000 && bar(passage(ships.get(ship), path, from, t)) == 0) {
                return t;
            }
        }
        return -1;
    }

    private static void move(Slot slot, int by) {
        for (Stay stay : slot.stays) {
            stay.enters += by;
            stay.leaves += by;
        }
    }

    private static int beginning(Slot slot) {
        return slot.stays.get(0).enters;
    }

    int change(int slot, int time) {
        if (slot < 1 || slot > slots.size() || wrongTime(time)) {
            return Check.ARGUMENT;
        }
        Slot s = slots.get(slot - 1);
        if (!s.given || beginning(s) <= now) {
            return -1;
        }
        int by = time - beginning(s);
        move(s, by);
        if (bar(s) == 0) {
            return 1;
        }
        move(s, -by);
        return 0;
    }

    int back(int slot) {
        if (slot < 1 || slot > slots.size()) {
            return 0;
        }
        Slot s = slots.get(slot - 1);
        if (!s.given || beginning(s) <= now) {
            return 0;
        }
        s.given = false;
        return 1;
    }

    int close(int piece, int from, int to) {
        if (piece < 0 || piece >= pieces.size() || wrongTime(from) || wrongTime(to)
                || from >= to) {
            return Check.ARGUMENT;
        }
        Piece p = pieces.get(piece);
        if (p.spans.size() == 4) {
            return Check.STATE;
        }
        p.spans.add(new int[] {from, to});
        int ended = 0;
        for (Slot slot : slots) {
            boolean hit = false;
            for (Stay stay : slot.stays) {
                hit |= stay.piece == piece && common(stay, from, to);
            }
            if (hit && slot.given) {
                slot.given = false;
                ended++;
            }
        }
        return ended;
    }

    int tick(int time) {
        if (wrongTime(time)) {
            return 0;
        }
        now = time;
        return 1;
    }

    private List<int[]> conflicts() {
        List<int[]> all = new ArrayList<>();
        for (int i = 0; i < slots.size(); i++) {
            for (int j = i + 1; j < slots.size(); j++) {
                Slot one = slots.get(i);
                Slot other = slots.get(j);
                for (Stay stay : one.stays) {
                    for (Stay its : other.stays) {
                        int found = conflictsOf(one, stay, other, its);
                        if (one.given && other.given && found != 0) {
                            int which = Integer.numberOfTrailingZeros(found);
                            all.add(new int[] {i + 1, j + 1, stay.piece, which});
                        }
                    }
                }
            }
        }
        return all;
    }

    int conflict(int i, int side) {
        if (side < 0 || side > 3) {
            return Check.ARGUMENT;
        }
        List<int[]> all = conflicts();
        return i < 0 || i >= all.size() ? -1 : all.get(i)[side];
    }

    int at(int slot, int i, int what) {
        if (slot < 1 || slot > slots.size() || what < 0 || what > 3) {
            return Check.INDEX;
        }
        List<Stay> stays = slots.get(slot - 1).stays;
        if (i < 0 || i >= stays.size()) {
            return Check.INDEX;
        }
        Stay stay = stays.get(i);
        int[] all = {stay.piece, stay.enters, stay.leaves, stay.forward ? 1 : 0};
        return all[what];
    }

    int count(int what) {
        int given = 0;
        for (Slot slot : slots) {
            given += slot.given ? 1 : 0;
        }
        if (what >= 0 && what <= 6) {
            int[] all = {pieces.size(), ships.size(), slots.size(), given, now,
                conflicts().size(), wind ? 1 : 0};
            return all[what];
        }
        if (what > 20 && what - 20 <= slots.size()) {
            return slots.get(what - 21).given ? 1 : 0;
        }
        return -1;
    }
}
