import java.math.BigInteger;
import java.util.ArrayList;
import java.util.Arrays;
import java.util.HashSet;
import java.util.List;
import java.util.Set;

/** The document told a second time, as plainly as the Java library allows: slow, with new objects everywhere. */
final class Oracle {
    static final int BAD = -1, STATE = -2, FULL = -3, NONE = -4;
    static final int[] DX = {0, 1, 0, -1}, DY = {-1, 0, 1, 0};

    static final class Piece implements Cloneable {
        int side, kind, square, oil;

        Piece(int kind, int side, int square, int oil) {
            this.kind = kind;
            this.side = side;
            this.square = square;
            this.oil = oil;
        }

        Piece copy() {
            return new Piece(kind, side, square, oil);
        }

        boolean same(Piece o) {
            return square == o.square && oil == o.oil;
        }
    }

    static final class World {
        int wide = 3, high = 3, turn = 0, turns = 0;
        Set<Integer> steeples = new HashSet<>();
        List<Piece> pieces = new ArrayList<>();
        int[] odds = {1, 1, 1, 1, 1};
        List<int[]> seen = new ArrayList<>();
        List<Integer> told = new ArrayList<>();

        World copy() {
            World w = new World();
            w.wide = wide;
            w.high = high;
            w.turn = turn;
            w.turns = turns;
            w.steeples.addAll(steeples);
            for (Piece p : pieces) w.pieces.add(p.copy());
            w.odds = odds.clone();
            w.seen.addAll(seen);
            w.told.addAll(told);
            return w;
        }

        int at(int square) {
            for (int p = 0; p < pieces.size(); p++) if (pieces.get(p).square == square) return p;
            return NONE;
        }

        int lost() {
            for (Piece p : pieces) if (p.kind == 0 && p.square == NONE) return p.side;
            return NONE;
        }

        int square(int x, int y) {
            return x < 0 || y < 0 || x >= wide || y >= high ? -1 : y * wide + x;
        }

        List<int[]> moves(int w) {
            List<int[]> all = new ArrayList<>();
            if (w == 4 || lost() != NONE) return all;
            for (int p = 0; p < pieces.size(); p++) {
                Piece piece = pieces.get(p);
                if (piece.side != turn || piece.square == NONE || piece.oil == 0) continue;
                for (int to = 0; to < wide * high; to++) if (reaches(piece, to, w)) all.add(new int[] {p, to});
            }
            return all;
        }

        boolean reaches(Piece piece, int to, int w) {
            int there = at(to);
            if (steeples.contains(to) || there != NONE && pieces.get(there).side == piece.side) return false;
            int dx = to % wide - piece.square % wide, dy = to / wide - piece.square / wide;
            int on = dx * DX[w] + dy * DY[w];
            int aside = Math.abs(dx * DY[w]) + Math.abs(dy * DX[w]);
            if (piece.kind == 3) return on == 2 && aside == 1;
            if (aside != 0 || on < 1) return false;
            if (piece.kind != 2) return on == 1;
            for (int i = 1; i < on; i++) {
                int between = piece.square + i * (DX[w] + wide * DY[w]);
                if (steeples.contains(between) || at(between) != NONE) return false;
            }
            return true;
        }

        /** The world behind a TURN; the PIECE that is TAKEN comes into taken[0]. */
        World after(int w, int[] move, int[] taken) {
            World next = copy();
            taken[0] = NONE;
            if (move != null) {
                taken[0] = at(move[1]);
                if (taken[0] != NONE) next.pieces.get(taken[0]).square = NONE;
                next.pieces.get(move[0]).square = move[1];
            }
            for (int p = 0; p < pieces.size(); p++) {
                Piece piece = next.pieces.get(p);
                if (w == 4 || piece.side != turn || piece.square == NONE || move != null && move[0] == p) continue;
                piece.oil = Math.max(0, piece.oil - 1);
            }
            next.turn = 1 - turn;
            next.turns++;
            return next;
        }

        List<int[]> choices(int w) {
            List<int[]> all = moves(w);
            if (all.isEmpty()) all.add(null);
            return all;
        }
    }

    static final class Row {
        List<int[]> turns = new ArrayList<>();
        World end;
    }

    World now = new World();
    World[] images = new World[2];
    List<Integer> tape = new ArrayList<>();
    int fault = 0, torn = 0;
    int[] lanes = new int[4];
    int[][] sheets = new int[4][];

    Oracle() {
        now.pieces.add(new Piece(0, 0, 0, 9));
        now.pieces.add(new Piece(0, 1, 8, 9));
    }

    // ---- the text

    int feed(long v) {
        if (tape.size() + 8 > 320) return FULL;
        for (int i = 7; i >= 0; i--) tape.add((int) (v >> 8 * i & 255));
        return tape.size();
    }

    int end(int n) {
        int had = tape.size();
        if (n < 0 || n > had) return BAD;
        tape = new ArrayList<>(tape.subList(0, n));
        return had;
    }

    static final class Fault extends Exception {
        private static final long serialVersionUID = 1;
        final int number, place;

        Fault(int number, int place) {
            this.number = number;
            this.place = place;
        }
    }

    String text;
    int at, tokenAt;

    String token() throws Fault {
        while (at < text.length() && text.charAt(at) == ' ') at++;
        tokenAt = at;
        if (at == text.length()) return "";
        String rest = text.substring(at);
        String found = rest.replaceFirst("(?s)^([a-z]+|[0-9]+|;).*$", "$1");
        if (!found.matches("[a-z]+|[0-9]+|;")) throw new Fault(1, at);
        if (found.matches("[0-9]{3,}")) throw new Fault(1, at);
        at += found.length();
        return found;
    }

    int number(int least, int most) throws Fault {
        String t = token();
        if (!t.matches("[0-9]+")) throw new Fault(2, tokenAt);
        int v = Integer.parseInt(t);
        if (v < least || v > most) throw new Fault(3, tokenAt);
        return v;
    }

    int free(World w) throws Fault {
        int square = number(0, 24);
        if (w.steeples.contains(square) || w.at(square) != NONE) throw new Fault(4, tokenAt);
        return square;
    }

    int text() {
        StringBuilder sb = new StringBuilder();
        for (int b : tape) sb.append((char) b);
        tape = new ArrayList<>();
        text = sb.toString();
        at = 0;
        try {
            int lines = tell();
            fault = 0;
            return lines;
        } catch (Fault f) {
            fault = f.number;
            return -10 - f.place;
        }
    }

    int tell() throws Fault {
        World w = new World();
        Set<String> once = new HashSet<>();
        int lines = 0;
        for (String name = token(); !name.isEmpty(); name = token()) {
            if (!Arrays.asList("board", "steeple", "piece", "odds", "turn").contains(name)) throw new Fault(2, tokenAt);
            boolean many = name.equals("steeple") || name.equals("piece");
            if (!many && !once.add(name)) throw new Fault(4, tokenAt);
            if (name.equals("piece") && w.pieces.size() == 6) throw new Fault(5, tokenAt);
            switch (name) {
                case "board":
                    w.wide = number(2, 5);
                    w.high = number(2, 5);
                    break;
                case "steeple":
                    w.steeples.add(free(w));
                    break;
                case "piece":
                    int kind = Arrays.asList("king", "man", "runner", "sparrow").indexOf(token());
                    if (kind < 0) throw new Fault(2, tokenAt);
                    int side = number(0, 1);
                    int square = free(w);
                    w.pieces.add(new Piece(kind, side, square, number(0, 9)));
                    break;
                case "odds":
                    for (int i = 0; i < 5; i++) w.odds[i] = number(0, 9);
                    if (Arrays.stream(w.odds).sum() == 0) throw new Fault(3, tokenAt);
                    break;
                default:
                    w.turn = number(0, 1);
            }
            if (!token().equals(";")) throw new Fault(2, tokenAt);
            lines++;
        }
        int last = w.wide * w.high - 1;
        for (int s : w.steeples) if (s > last) throw new Fault(6, text.length());
        for (Piece p : w.pieces) if (p.square > last) throw new Fault(6, text.length());
        for (int side = 0; side < 2 && !w.pieces.isEmpty(); side++) {
            int kings = 0;
            for (Piece p : w.pieces) if (p.kind == 0 && p.side == side) kings++;
            if (kings != 1) throw new Fault(7, text.length());
        }
        if (w.pieces.isEmpty()) {
            if (w.steeples.contains(0) || w.steeples.contains(last)) throw new Fault(8, text.length());
            w.pieces.add(new Piece(0, 0, 0, 9));
            w.pieces.add(new Piece(0, 1, last, 9));
        }
        now = w;
        images = new World[2];
        return lines;
    }

    int fault() {
        return fault;
    }

    int rule(int what) {
        int steeples = 0;
        for (int s : now.steeples) steeples += 1 << s;
        int[] all = {now.wide, now.high, now.pieces.size(), steeples, now.turn, now.turns, now.lost()};
        return what < 0 || what > 6 ? BAD : all[what];
    }

    boolean noSquare(int i) {
        return i < 0 || i >= now.wide * now.high;
    }

    boolean noPiece(int p) {
        return p < 0 || p >= now.pieces.size();
    }

    static boolean not(int v, int least, int most) {
        return v < least || v > most;
    }

    int square(int i) {
        return noSquare(i) ? BAD : now.at(i);
    }

    int piece(int p, int what) {
        if (noPiece(p) || not(what, 0, 3)) return BAD;
        Piece x = now.pieces.get(p);
        return new int[] {x.side, x.kind, x.square, x.oil}[what];
    }

    int odd(int w) {
        return not(w, 0, 4) ? BAD : now.odds[w];
    }

    // ---- what is changed

    int oil(int p, int v) {
        if (noPiece(p) || not(v, 0, 9)) return BAD;
        int was = now.pieces.get(p).oil;
        now.pieces.get(p).oil = v;
        return was;
    }

    int put(int p, int i) {
        if (noPiece(p) || noSquare(i) || now.steeples.contains(i)) return BAD;
        if (now.at(i) != NONE && now.at(i) != p) return BAD;
        int was = now.pieces.get(p).square;
        now.pieces.get(p).square = i;
        return was;
    }

    int steeple(int i, boolean is) {
        if (noSquare(i) || now.at(i) != NONE) return BAD;
        boolean was = now.steeples.contains(i);
        if (is) now.steeples.add(i);
        else now.steeples.remove(i);
        return was ? 1 : 0;
    }

    int weigh(int w, int v) {
        if (not(w, 0, 4) || not(v, 0, 9)) return BAD;
        int[] odds = now.odds.clone();
        odds[w] = v;
        if (Arrays.stream(odds).sum() == 0) return BAD;
        int was = now.odds[w];
        now.odds = odds;
        return was;
    }

    int turn(int side) {
        if (not(side, 0, 1)) return BAD;
        int was = now.turn;
        now.turn = side;
        return was;
    }

    // ---- turns

    int moves(int w) {
        return not(w, 0, 4) ? BAD : now.moves(w).size();
    }

    int move(int w, int k) {
        if (not(w, 0, 4) || not(k, 0, now.moves(w).size() - 1)) return BAD;
        int[] m = now.moves(w).get(k);
        return 100 * m[0] + m[1];
    }

    int go(int w, int k) {
        if (not(w, 0, 4)) return BAD;
        List<int[]> all = now.moves(w);
        if (k == NONE ? !all.isEmpty() : not(k, 0, all.size() - 1)) return BAD;
        if (now.lost() != NONE) return STATE;
        if (now.turns == 999) return FULL;
        int[] taken = new int[1];
        now = now.after(w, k == NONE ? null : all.get(k), taken);
        return taken[0];
    }

    // ---- by gales

    static BigInteger big(long v) {
        return BigInteger.valueOf(v);
    }

    static final class Fraction implements Comparable<Fraction> {
        final BigInteger top, bottom;

        Fraction(BigInteger top, BigInteger bottom) {
            BigInteger g = top.gcd(bottom);
            this.top = top.divide(g);
            this.bottom = bottom.divide(g);
        }

        Fraction(long top, long bottom) {
            this(big(top), big(bottom));
        }

        Fraction plus(Fraction o) {
            return new Fraction(top.multiply(o.bottom).add(o.top.multiply(bottom)), bottom.multiply(o.bottom));
        }

        Fraction times(Fraction o) {
            return new Fraction(top.multiply(o.top), bottom.multiply(o.bottom));
        }

        public int compareTo(Fraction o) {
            return top.multiply(o.bottom).compareTo(o.top.multiply(bottom));
        }

        long part(int what) {
            return what == 0 ? top.longValueExact() : bottom.longValueExact();
        }
    }

    static Fraction chance(World at, int side, int n) {
        if (at.lost() != NONE) return new Fraction(at.lost() == side ? 0 : 1, 1);
        if (n == 0) return new Fraction(0, 1);
        int all = Arrays.stream(at.odds).sum();
        Fraction sum = new Fraction(0, 1);
        for (int w = 0; w < 5; w++) {
            if (at.odds[w] == 0) continue;
            sum = sum.plus(new Fraction(at.odds[w], all).times(byWind(at, side, w, n, new int[1])));
        }
        return sum;
    }

    static Fraction byWind(World at, int side, int w, int n, int[] best) {
        Fraction found = null;
        List<int[]> all = at.choices(w);
        for (int k = 0; k < all.size(); k++) {
            Fraction value = chance(at.after(w, all.get(k), new int[1]), side, n - 1);
            if (found != null && (at.turn == side ? value.compareTo(found) <= 0 : value.compareTo(found) >= 0)) continue;
            found = value;
            best[0] = k;
        }
        if (all.get(0) == null) best[0] = NONE;
        return found;
    }

    long chance(int side, int n, int what) {
        if (not(side, 0, 1) || not(n, 0, 3) || not(what, 0, 1)) return BAD;
        return chance(now, side, n).part(what);
    }

    long byWind(int w, int n, int what) {
        if (not(w, 0, 4) || not(n, 1, 3) || not(what, 0, 1)) return BAD;
        if (now.lost() != NONE) return STATE;
        return byWind(now, now.turn, w, n, new int[1]).part(what);
    }

    int best(int w, int n) {
        if (not(w, 0, 4) || not(n, 1, 3)) return BAD;
        if (now.lost() != NONE) return STATE;
        int[] best = new int[1];
        byWind(now, now.turn, w, n, best);
        return best[0];
    }

    int hope(int n) {
        if (not(n, 1, 3)) return BAD;
        if (now.lost() != NONE) return STATE;
        int best = 0;
        Fraction most = byWind(now, now.turn, 0, n, new int[1]);
        for (int w = 1; w < 5; w++) {
            Fraction value = byWind(now, now.turn, w, n, new int[1]);
            if (value.compareTo(most) > 0) {
                most = value;
                best = w;
            }
        }
        return best;
    }

    // ---- rows

    static List<Row> rows(World from, int n) {
        List<Row> all = new ArrayList<>();
        if (n == 0) {
            Row row = new Row();
            row.end = from;
            all.add(row);
            return all;
        }
        if (from.lost() != NONE) return all;
        for (int w = 0; w < 5; w++) {
            List<int[]> choices = from.choices(w);
            for (int k = 0; k < choices.size(); k++) {
                int label = choices.get(k) == null ? 99 : k;
                for (Row behind : rows(from.after(w, choices.get(k), new int[1]), n - 1)) {
                    behind.turns.add(0, new int[] {w, label});
                    all.add(behind);
                }
            }
        }
        return all;
    }

    int since(int k, int n, int what) {
        if (not(k, 0, 1) || not(n, 0, 3) || what != 0 && not(what, 10, 12)) return BAD;
        if (images[k] == null) return STATE;
        World from = now.copy();
        from.pieces = images[k].copy().pieces;
        from.turn = images[k].turn;
        int found = 0;
        Row first = null;
        for (Row row : rows(from, n)) {
            boolean same = row.end.turn == now.turn;
            for (int p = 0; p < now.pieces.size(); p++) same &= row.end.pieces.get(p).same(now.pieces.get(p));
            if (!same) continue;
            found++;
            if (first == null) first = row;
        }
        if (what == 0) return found;
        if (first == null || what - 10 >= n) return NONE;
        int[] t = first.turns.get(what - 10);
        return 100 * t[0] + t[1];
    }

    int see(int i, int side) {
        if (noSquare(i) || not(side, 0, 1) && side != NONE) return BAD;
        if (now.seen.size() == 8) return FULL;
        now.seen.add(new int[] {i, side});
        return now.seen.size();
    }

    int forget(int n) {
        int had = now.seen.size();
        if (not(n, 0, had)) return BAD;
        now.seen = new ArrayList<>(now.seen.subList(0, n));
        return had;
    }

    List<Row> fitting(int n) {
        List<Row> all = new ArrayList<>();
        for (Row row : rows(now, n)) {
            boolean fits = true;
            for (int[] s : now.seen) {
                int p = row.end.at(s[0]);
                fits &= (p == NONE ? NONE : row.end.pieces.get(p).side) == s[1];
            }
            if (fits) all.add(row);
        }
        return all;
    }

    int fits(int n) {
        return not(n, 0, 3) ? BAD : fitting(n).size();
    }

    int where(int p, int n) {
        if (noPiece(p) || not(n, 0, 3)) return BAD;
        int bits = 0;
        for (Row row : fitting(n)) {
            int square = row.end.pieces.get(p).square;
            bits |= 1 << (square == NONE ? 25 : square);
        }
        return bits;
    }

    // ---- blowing

    int tell(int w) {
        if (not(w, 0, 4)) return BAD;
        if (now.told.size() == 3) return FULL;
        now.told.add(w);
        return now.told.size();
    }

    int drop(int n) {
        int had = now.told.size();
        if (not(n, 0, had)) return BAD;
        now.told = new ArrayList<>(now.told.subList(0, n));
        return had;
    }

    /** Whether by these WINDS, from the i-th on, the other king than that of a SIDE can be TAKEN. */
    static boolean takes(World at, List<Integer> winds, int side) {
        if (at.lost() != NONE) return at.lost() == 1 - side;
        if (winds.isEmpty()) return false;
        for (int[] move : at.choices(winds.get(0))) {
            World next = at.after(winds.get(0), move, new int[1]);
            if (takes(next, winds.subList(1, winds.size()), side)) return true;
        }
        return false;
    }

    static List<List<Integer>> allWinds(int n) {
        List<List<Integer>> all = new ArrayList<>();
        if (n == 0) {
            all.add(new ArrayList<>());
            return all;
        }
        for (int w = 0; w < 5; w++) {
            for (List<Integer> behind : allWinds(n - 1)) {
                behind.add(0, w);
                all.add(behind);
            }
        }
        return all;
    }

    int blow(int what) {
        if (what != 0 && not(what, 10, 12)) return BAD;
        if (now.lost() != NONE) return STATE;
        for (int changes = 0; changes <= 3; changes++) {
            for (List<Integer> winds : allWinds(now.told.size())) {
                int others = 0;
                for (int i = 0; i < winds.size(); i++) if (!winds.get(i).equals(now.told.get(i))) others++;
                if (others != changes || !takes(now, winds, now.turn)) continue;
                if (what == 0) return changes;
                return what - 10 < winds.size() ? winds.get(what - 10) : NONE;
            }
        }
        return NONE;
    }

    // ---- by a seed

    int gale(int seed, int n, int what) {
        if (not(n, 1, 60) || not(what, 0, 1)) return BAD;
        World at = now;
        int went = 0;
        while (went < n && at.lost() == NONE) {
            seed = big(seed).multiply(big(1103515245)).add(big(12345)).intValue();
            long unsigned = seed & 0xffffffffL;
            long rest = unsigned / 65536 % 32768 % Arrays.stream(at.odds).sum();
            int w = 0;
            for (int sum = at.odds[0]; rest >= sum; sum += at.odds[w]) w++;
            at = at.after(w, at.choices(w).get(0), new int[1]);
            went++;
        }
        return what == 0 ? went : at.lost();
    }

    // ---- images, sheets

    int keep(int k) {
        if (not(k, 0, 1)) return BAD;
        int was = images[k] == null ? 0 : 1;
        images[k] = now.copy();
        return was;
    }

    int back(int k) {
        if (not(k, 0, 1)) return BAD;
        if (images[k] == null) return STATE;
        now = images[k].copy();
        return now.turns;
    }

    int sheet(int k, int lane, int n) {
        if (not(k, 0, 3) || not(lane, 0, 2) || n > 40) return BAD;
        if (n < 0) return -14;
        sheets[k] = new int[n];
        lanes[k] = lane;
        return 1;
    }

    int lay(int k, int i, int v) {
        if (not(k, 0, 3)) return BAD;
        if (sheets[k] == null) return -11;
        if (not(i, 0, sheets[k].length - 1)) return -12;
        int unused = new int[] {24, 16, 0}[lanes[k]];
        sheets[k][i] = v << unused >> unused;
        return 1;
    }

    int read(int k, int lane, int f, int n) {
        if (not(k, 0, 3) || not(lane, 0, 2) || not(n, 0, 13)) return BAD;
        World was = now;
        for (int i = 0; i < n; i++) {
            int found = 0;
            long first = (long) f + 2 * i;
            if (sheets[k] == null) found = 1;
            else if (lanes[k] != lane) found = 3;
            else if (first < 0 || first + 1 >= sheets[k].length) found = 2;
            if (found != 0) {
                torn = found;
                return i;
            }
            int answer = go(sheets[k][(int) first], sheets[k][(int) first + 1]);
            if (answer == BAD || answer == STATE || answer == FULL) {
                now = was;
                return -20 - i;
            }
        }
        torn = 0;
        return n;
    }

    int torn() {
        return torn;
    }

    int count(int what) {
        int standing = 0, oil = 0, kept = 0;
        for (Piece p : now.pieces) {
            standing += p.square == NONE ? 0 : 1;
            oil += p.oil;
        }
        for (World w : images) kept += w == null ? 0 : 1;
        int cells = sheets[0] == null ? NONE : sheets[0].length;
        int[] all = {standing, now.seen.size(), now.told.size(), kept, tape.size(), cells, oil};
        return not(what, 0, 6) ? BAD : all[what];
    }
}
