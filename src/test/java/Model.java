import java.util.ArrayDeque;
import java.util.ArrayList;
import java.util.HashSet;
import java.util.List;
import java.util.Set;
import java.util.TreeSet;

/**
 * The document once more, word by word and slowly: sets of places, exact fractions, every height tried.
 * It shares no code and no shortcut with LogsAfloat, so that a slip in one shows against the other.
 */
final class Model {
    private static final int BAD = -1, FULL = -2, FINDING = -3, STATE = -4, SINKS = -5, NONE = -9;

    private record Place(int x, int y) {
    }

    private static final class Burden {
        int kind, a, b, weight, rope;
    }

    /** What the water does at the draft. */
    private static final class Afloat {
        int r;
        Ratio h;
        Set<Place> firm;
    }

    private Integer[][] squares = new Integer[1][1];
    private int d = 10;
    private final byte[][] sheets = new byte[6][];
    private final List<Burden> burdens = new ArrayList<>();
    private final List<Integer> found = new ArrayList<>();
    private Ratio told = Ratio.ZERO;

    private int w() {
        return squares.length;
    }

    private int h() {
        return squares[0].length;
    }

    private int found(int f) {
        found.add(f);
        return FINDING;
    }

    private int tell(Ratio r) {
        told = r;
        return 1;
    }

    private boolean isPlace(int x, int y) {
        return x >= 0 && x < w() && y >= 0 && y < h();
    }

    public int log(int w, int h) {
        if (w < 1 || w > 12 || h < 1 || h > 12) return BAD;
        squares = new Integer[w][h];
        burdens.clear();
        return w * h;
    }

    public int square(int x, int y, int weight) {
        if (!isPlace(x, y) || weight > 20 || weight < 0 && weight != NONE) return BAD;
        int had = at(x, y);
        squares[x][y] = weight == NONE ? null : Integer.valueOf(weight);
        return had;
    }

    public int at(int x, int y) {
        if (!isPlace(x, y)) return BAD;
        return squares[x][y] == null ? NONE : squares[x][y];
    }

    public int water(int d) {
        if (d < 1 || d > 20) return BAD;
        int had = this.d;
        this.d = d;
        return had;
    }

    private static boolean isSheet(int s) {
        return s >= 0 && s <= 5;
    }

    public int sheet(int s, int n) {
        if (!isSheet(s) || n > 12) return BAD;
        if (n < 0) return found(5);
        sheets[s] = new byte[n];
        return n;
    }

    public int lay(int s, int i, int v) {
        if (!isSheet(s)) return BAD;
        if (sheets[s] == null) return found(1);
        if (i < 0 || i >= sheets[s].length) return found(2);
        int was = sheets[s][i];
        int cut = Math.floorMod(v, 256);
        sheets[s][i] = (byte) (cut > 127 ? cut - 256 : cut);
        return was + 1000;
    }

    public int tear(int s) {
        if (!isSheet(s)) return BAD;
        if (sheets[s] == null) return found(1);
        sheets[s] = null;
        return 1;
    }

    public int copy(int s, int i, int to, int j, int n) {
        if (!isSheet(s) || !isSheet(to)) return BAD;
        if (sheets[s] == null || sheets[to] == null) return found(1);
        boolean beyond = i < 0 || j < 0 || n < 0;
        beyond |= (long) i + n > sheets[s].length || (long) j + n > sheets[to].length;
        if (beyond) return found(2);
        byte[] ahead = sheets[s].clone();
        for (int k = 0; k < n; k++) {
            sheets[to][j + k] = ahead[i + k];
        }
        return 1;
    }

    public int fill(int y, int s) {
        if (y < 0 || y >= h() || !isSheet(s)) return BAD;
        if (sheets[s] == null) return found(1);
        if (sheets[s].length < w()) return found(2);
        int many = 0;
        for (int x = 0; x < w(); x++) {
            squares[x][y] = null;
            if (sheets[s][x] >= 0) {
                squares[x][y] = Math.min(20, sheets[s][x]);
                many++;
            }
        }
        return many;
    }

    private static boolean isPoint(int a, int b) {
        return a >= 0 && a <= 24 && b >= 0 && b <= 24;
    }

    public int load(int kind, int a, int b, int weight) {
        if (kind < 0 || kind > 2 || !isPoint(a, b) || weight < 0 || weight > 200) return BAD;
        if (burdens.size() == 10) return FULL;
        Burden made = new Burden();
        made.kind = kind;
        made.a = a;
        made.b = b;
        made.weight = weight;
        burdens.add(made);
        return burdens.size() - 1;
    }

    private boolean isLoad(int load) {
        return load >= 0 && load < burdens.size();
    }

    public int move(int load, int a, int b) {
        if (!isLoad(load) || !isPoint(a, b)) return BAD;
        Burden one = burdens.get(load);
        if (one == null) return found(1);
        if (one.kind == 2) return found(3);
        one.a = a;
        one.b = b;
        return 1;
    }

    public int rope(int load, int n) {
        if (!isLoad(load) || n < 0 || n > 20) return BAD;
        Burden one = burdens.get(load);
        if (one == null) return found(1);
        if (one.kind != 1) return found(3);
        int was = one.rope;
        one.rope = n;
        return was;
    }

    public int drop(int load) {
        if (!isLoad(load)) return BAD;
        if (burdens.get(load) == null) return found(1);
        burdens.set(load, null);
        return 1;
    }

    public int told(int load, int what) {
        if (!isLoad(load) || what < 0 || what > 4) return BAD;
        Burden one = burdens.get(load);
        if (one == null) return found(1);
        return new int[] {one.kind, one.a, one.b, one.weight, one.kind == 1 ? one.rope : NONE}[what];
    }

    public int is(int load, int kind) {
        if (!isLoad(load) || kind < 0 || kind > 2) return BAD;
        Burden one = burdens.get(load);
        if (one == null) return found(1);
        return kind == 0 || one.kind == kind ? 1 : 0;
    }

    public int all() {
        int sum = 0;
        for (Integer[] column : squares) {
            for (Integer weight : column) {
                sum += weight == null ? 0 : weight;
            }
        }
        for (Burden one : burdens) {
            sum += one == null ? 0 : one.weight;
        }
        return sum;
    }

    public int mean() {
        int many = count(2);
        if (many == 0) return found(4);
        int sum = all();
        for (Burden one : burdens) {
            sum -= one == null ? 0 : one.weight;
        }
        return sum / many;
    }

    private int wOf(int turn) {
        return turn == 0 || turn == 2 ? w() : h();
    }

    private int hOf(int turn) {
        return turn == 0 || turn == 2 ? h() : w();
    }

    private Place turned(int turn, int x, int y) {
        return switch (turn) {
            case 0 -> new Place(x, y);
            case 1 -> new Place(h() - 1 - y, x);
            case 2 -> new Place(w() - 1 - x, h() - 1 - y);
            default -> new Place(y, w() - 1 - x);
        };
    }

    private int[] turnedPoint(int turn, int a, int b) {
        return switch (turn) {
            case 0 -> new int[] {a, b};
            case 1 -> new int[] {2 * h() - b, a};
            case 2 -> new int[] {2 * w() - a, 2 * h() - b};
            default -> new int[] {b, 2 * w() - a};
        };
    }

    private Set<Place> squaresIn(int turn) {
        Set<Place> set = new HashSet<>();
        for (int x = 0; x < w(); x++) {
            for (int y = 0; y < h(); y++) {
                if (squares[x][y] != null) set.add(turned(turn, x, y));
            }
        }
        return set;
    }

    /** FIRM places of rows 0 to r: all but those that the water reaches from a way in. */
    private Set<Place> firm(int turn, int r) {
        Set<Place> solid = squaresIn(turn);
        Set<Place> wet = new HashSet<>();
        ArrayDeque<Place> next = new ArrayDeque<>();
        for (int x = 0; x < wOf(turn); x++) {
            for (int y = 0; y <= r; y++) {
                if (x == 0 || x == wOf(turn) - 1 || y == 0) next.add(new Place(x, y));
            }
        }
        while (!next.isEmpty()) {
            Place p = next.remove();
            boolean inside = p.x >= 0 && p.x < wOf(turn) && p.y >= 0 && p.y <= r;
            if (!inside || solid.contains(p) || !wet.add(p)) continue;
            next.add(new Place(p.x - 1, p.y));
            next.add(new Place(p.x + 1, p.y));
            next.add(new Place(p.x, p.y - 1));
            next.add(new Place(p.x, p.y + 1));
        }
        Set<Place> firm = new HashSet<>();
        for (int x = 0; x < wOf(turn); x++) {
            for (int y = 0; y <= r; y++) {
                if (!wet.contains(new Place(x, y))) firm.add(new Place(x, y));
            }
        }
        return firm;
    }

    private static Ratio roomOf(Set<Place> firm, int r, Ratio h) {
        Ratio sum = Ratio.ZERO;
        for (Place p : firm) {
            sum = sum.plus(p.y < r ? Ratio.of(1) : h.minus(Ratio.of(r)));
        }
        return sum;
    }

    /** The least of all heights with the room that a weight needs; null: it sinks. */
    private Afloat afloat(int turn, int weight) {
        Ratio due = Ratio.of(weight, d);
        Afloat least = null;
        for (int r = 0; r < hOf(turn); r++) {
            Set<Place> firm = firm(turn, r);
            Ratio low = roomOf(firm, r, Ratio.of(r));
            Ratio step = roomOf(firm, r, Ratio.of(r + 1)).minus(low);
            if (step.compareTo(Ratio.ZERO) == 0) continue;
            Ratio h = due.minus(low).by(step).plus(Ratio.of(r));
            boolean inRow = h.compareTo(Ratio.of(r)) > 0 && h.compareTo(Ratio.of(r + 1)) <= 0;
            if (inRow && (least == null || h.compareTo(least.h) < 0)) {
                least = new Afloat();
                least.r = r;
                least.h = h;
                least.firm = firm;
            }
        }
        return least;
    }

    private int refused(int turn) {
        if (turn < 0 || turn > 3) return BAD;
        if (count(2) == 0 || all() == 0) return STATE;
        return afloat(turn, all()) == null ? SINKS : 1;
    }

    public int floats(int turn) {
        return refused(turn);
    }

    public int draft(int turn) {
        int refused = refused(turn);
        return refused != 1 ? refused : tell(afloat(turn, all()).h);
    }

    public int above(int turn) {
        int refused = refused(turn);
        return refused != 1 ? refused : tell(Ratio.of(hOf(turn)).minus(afloat(turn, all()).h));
    }

    private Ratio borne(Afloat lie, boolean across) {
        Ratio moment = Ratio.ZERO;
        for (Place p : lie.firm) {
            Ratio high = p.y < lie.r ? Ratio.of(1) : lie.h.minus(Ratio.of(lie.r));
            Ratio x = Ratio.of(2 * p.x + 1, 2);
            Ratio y = Ratio.of(p.y).plus(high.by(Ratio.of(2)));
            moment = moment.plus(high.times(across ? x : y));
        }
        return moment.by(roomOf(lie.firm, lie.r, lie.h));
    }

    /** ALL times G. */
    private Ratio weighs(int turn, boolean across) {
        Ratio moment = Ratio.ZERO;
        for (int x = 0; x < w(); x++) {
            for (int y = 0; y < h(); y++) {
                if (squares[x][y] == null) continue;
                Place p = turned(turn, x, y);
                Ratio middle = Ratio.of(across ? p.x : p.y).plus(Ratio.of(1, 2));
                moment = moment.plus(middle.times(Ratio.of(squares[x][y])));
            }
        }
        for (Burden one : burdens) {
            if (one == null) continue;
            int[] point = turnedPoint(turn, one.a, one.b);
            int acts = across ? point[0] : point[1] + (one.kind == 1 ? one.rope : 0);
            moment = moment.plus(Ratio.of(acts, 2).times(Ratio.of(one.weight)));
        }
        return moment;
    }

    public int middle(int turn, int what) {
        if (what < 0 || what > 3) return BAD;
        int refused = refused(turn);
        if (refused != 1) return refused;
        boolean across = what % 2 == 0;
        return tell(what < 2 ? borne(afloat(turn, all()), across) : weighs(turn, across).by(Ratio.of(all())));
    }

    public int place(int turn, int x, int y) {
        if (turn < 0 || turn > 3 || x < 0 || x >= wOf(turn) || y < 0 || y >= hOf(turn)) return BAD;
        int refused = refused(turn);
        if (refused != 1) return refused;
        Afloat lie = afloat(turn, all());
        Place p = new Place(x, y);
        if (y > lie.r) return 0;
        if (!lie.firm.contains(p)) return 1;
        return squaresIn(turn).contains(p) ? 2 : 3;
    }

    public int leans(int turn) {
        int refused = refused(turn);
        if (refused != 1) return refused;
        int g = weighs(turn, true).by(Ratio.of(all())).compareTo(borne(afloat(turn, all()), true));
        return g == 0 ? 0 : g < 0 ? 1 : 2;
    }

    private static Ratio breadthOf(Set<Place> firm, int row) {
        Set<Integer> xs = new TreeSet<>();
        for (Place p : firm) {
            if (p.y == row) xs.add(p.x);
        }
        if (xs.isEmpty()) return Ratio.ZERO;
        Ratio sum = Ratio.ZERO;
        Ratio middle = Ratio.ZERO;
        for (int x : xs) {
            sum = sum.plus(Ratio.of((x + 1) * (x + 1) * (x + 1) - x * x * x, 3));
            middle = middle.plus(Ratio.of(2 * x + 1, 2).by(Ratio.of(xs.size())));
        }
        return sum.minus(Ratio.of(xs.size()).times(middle).times(middle));
    }

    private Ratio lineBreadth(int turn) {
        Afloat lie = afloat(turn, all());
        Ratio here = breadthOf(lie.firm, lie.r);
        boolean just = lie.h.compareTo(Ratio.of(lie.r + 1)) == 0;
        if (!just || lie.r + 1 == hOf(turn)) return here;
        Ratio above = breadthOf(firm(turn, lie.r + 1), lie.r + 1);
        return above.compareTo(here) < 0 ? above : here;
    }

    public int breadth(int turn) {
        int refused = refused(turn);
        return refused != 1 ? refused : tell(lineBreadth(turn));
    }

    public int holds(int turn) {
        int leans = leans(turn);
        if (leans != 0) return leans < 0 ? leans : 0;
        Afloat lie = afloat(turn, all());
        Ratio up = weighs(turn, false).by(Ratio.of(all())).minus(borne(lie, false));
        int more = lineBreadth(turn).compareTo(roomOf(lie.firm, lie.r, lie.h).times(up));
        return more > 0 ? 2 : more == 0 ? 1 : 0;
    }

    public int rests() {
        if (count(2) == 0 || all() == 0) return STATE;
        int bits = 0;
        for (int turn = 0; turn < 4; turn++) {
            if (holds(turn) == 2) bits += 1 << turn;
        }
        return bits;
    }

    public int carries(int turn) {
        if (turn < 0 || turn > 3) return BAD;
        if (count(2) == 0) return STATE;
        if (all() > 0 && afloat(turn, all()) == null) return SINKS;
        // it carries less than this: whatever floats has at most 144 places of room
        int sinks = 144 * d + 1;
        int floats = 0;
        while (sinks - floats > 1) {
            int k = (sinks + floats) / 2;
            if (afloat(turn, all() + k) == null) {
                sinks = k;
            } else {
                floats = k;
            }
        }
        return floats;
    }

    public int trim(int turn, int k) {
        if (turn < 0 || turn > 3 || k < 1 || k > 2000) return BAD;
        if (count(2) == 0) return STATE;
        Afloat lie = afloat(turn, all() + k);
        if (lie == null) return SINKS;
        Ratio due = borne(lie, true).times(Ratio.of(all() + k));
        return tell(due.minus(weighs(turn, true)).by(Ratio.of(k)));
    }

    public int room(int turn, int u, int l) {
        if (turn < 0 || turn > 3 || u < 0 || u > 24 || l < 1 || l > 12 || u > hOf(turn) * l) return BAD;
        Ratio h = Ratio.of(u, l);
        for (int r = 0; r < hOf(turn); r++) {
            if (h.compareTo(Ratio.of(r)) > 0 && h.compareTo(Ratio.of(r + 1)) <= 0) {
                return tell(roomOf(firm(turn, r), r, h));
            }
        }
        return tell(Ratio.ZERO);
    }

    public long upper() {
        return told.upper.longValueExact();
    }

    public long lower() {
        return told.lower.longValueExact();
    }

    public int count(int what) {
        int many = 0;
        for (Integer[] column : squares) {
            for (Integer weight : column) {
                many += weight == null ? 0 : 1;
            }
        }
        int there = 0;
        for (Burden one : burdens) {
            there += one == null ? 0 : 1;
        }
        return what < 0 || what > 4 ? BAD : new int[] {w(), h(), many, burdens.size(), there}[what];
    }

    public int finding() {
        return found.isEmpty() ? 0 : found.get(found.size() - 1);
    }

    public int findings(int f) {
        if (f < 1 || f > 5) return BAD;
        return (int) found.stream().filter(x -> x == f).count();
    }

    public long digest() {
        List<Integer> vs = new ArrayList<>(List.of(w(), h()));
        for (int y = 0; y < h(); y++) {
            for (int x = 0; x < w(); x++) {
                vs.add(at(x, y));
            }
        }
        vs.add(d);
        for (int i = 0; i < burdens.size(); i++) {
            for (int what = 0; what < 5; what++) {
                if (burdens.get(i) != null) vs.add(told(i, what));
            }
            if (burdens.get(i) == null) vs.add(-1);
        }
        for (byte[] sheet : sheets) {
            vs.add(sheet == null ? -1 : sheet.length);
            for (int i = 0; sheet != null && i < sheet.length; i++) {
                vs.add((int) sheet[i]);
            }
        }
        long h = 17;
        for (int v : vs) {
            h = 31 * h + v;
        }
        return h;
    }
}
