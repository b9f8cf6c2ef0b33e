/** Chess on the roofs, played as the wind blows. ../shared/DOC.md tells what each call promises. */
public final class WeatherChess {
    public static final int BAD = -1, STATE = -2, FULL = -3, NONE = -4;

    private static final int SIDES = 2, WINDS = 5, CALM = 4;
    private static final int KING = 0, MAN = 1, RUNNER = 2, SPARROW = 3;
    private static final int MOST_PIECES = 6, MOST_SQUARES = 25, LONGEST_SIDE = 5, MOST_MOVES = 24;
    private static final int MOST_OIL = 9, MOST_ODDS = 9, MOST_TURNS = 999, MOST_GALES = 60;
    private static final int MOST_SEEN = 8, MOST_TOLD = 3, IMAGES = 2;
    private static final int MOST_AHEAD = 3, NO_MOVE = 99, TAKEN_BIT = 1 << 25;
    private static final int TAPE_BYTES = 320;
    private static final int SHEETS = 4, LANES = 3, MOST_CELLS = 40, MOST_READ = 13;
    private static final int NULL = 1, INDEX = 2, CAST = 3, SIZE = 4;

    private final Game now = new Game();
    private final Game[] images = new Game[IMAGES];
    private final boolean[] kept = new boolean[IMAGES];
    private final Tape tape = new Tape();
    private final Step start = chain(MOST_AHEAD);
    private final Rows rows = new Rows();
    private final Blowing blowing = new Blowing();
    private final Sheets sheets = new Sheets();
    private final Stand before = new Stand();
    private int latestFault, latestTorn;

    public WeatherChess() {
        now.clear();
        now.addTwoKings();
        for (int k = 0; k < images.length; k++) images[k] = new Game();
    }

    // ---- the text

    public int feed(long v) {
        return tape.append(v) ? tape.length : FULL;
    }

    public int end(int n) {
        int had = tape.length;
        if (n < 0 || n > had) return BAD;
        tape.length = n;
        return had;
    }

    public int text() {
        boolean whole = tape.tellAll();
        tape.length = 0;
        latestFault = tape.fault;
        if (!whole) return -10 - tape.faultPlace;
        now.copyFrom(tape.draft);
        for (int k = 0; k < kept.length; k++) kept[k] = false;
        return tape.lines;
    }

    public int fault() {
        return latestFault;
    }

    public int rule(int what) {
        switch (what) {
            case 0: return now.roofs.wide;
            case 1: return now.roofs.high;
            case 2: return now.roofs.pieces;
            case 3: return now.roofs.steeples;
            case 4: return now.stand.mover;
            case 5: return now.turns;
            case 6: return now.stand.lostSide(now.roofs);
            default: return BAD;
        }
    }

    public int square(int i) {
        return now.roofs.isSquare(i) ? now.stand.pieceOn(now.roofs, i) : BAD;
    }

    public int piece(int p, int what) {
        if (!now.roofs.isPiece(p)) return BAD;
        switch (what) {
            case 0: return now.roofs.sideOf(p);
            case 1: return now.roofs.kindOf(p);
            case 2: return now.stand.placeOf(p);
            case 3: return now.stand.oilOf(p);
            default: return BAD;
        }
    }

    public int odd(int w) {
        return isWind(w) ? now.roofs.oddsOf(w) : BAD;
    }

    // ---- what is changed

    public int oil(int p, int v) {
        if (!now.roofs.isPiece(p) || v < 0 || v > MOST_OIL) return BAD;
        int was = now.stand.oilOf(p);
        now.stand.fill(p, v);
        return was;
    }

    public int put(int p, int i) {
        if (!now.roofs.isPiece(p) || !now.roofs.isSquare(i) || now.roofs.isClosed(i)) return BAD;
        int there = now.stand.pieceOn(now.roofs, i);
        if (there != NONE && there != p) return BAD;
        int was = now.stand.placeOf(p);
        now.stand.settle(now.roofs, p, i);
        return was;
    }

    public int steeple(int i, boolean is) {
        if (!now.roofs.isSquare(i) || now.stand.pieceOn(now.roofs, i) != NONE) return BAD;
        boolean was = now.roofs.isClosed(i);
        now.roofs.close(i, is);
        return was ? 1 : 0;
    }

    public int weigh(int w, int v) {
        if (!isWind(w) || v < 0 || v > MOST_ODDS) return BAD;
        int was = now.roofs.oddsOf(w);
        if (now.roofs.allOdds() - was + v == 0) return BAD;
        now.roofs.setOdds(w, v);
        return was;
    }

    public int turn(int side) {
        if (!isSide(side)) return BAD;
        int was = now.stand.mover;
        now.stand.mover = side;
        return was;
    }

    // ---- turns

    public int moves(int w) {
        return isWind(w) ? listNow(w) : BAD;
    }

    public int move(int w, int k) {
        if (!isWind(w)) return BAD;
        int n = listNow(w);
        return k >= 0 && k < n ? start.moveAt(k) : BAD;
    }

    public int go(int w, int k) {
        return playNow(w, k);
    }

    // ---- by gales

    public long chance(int side, int n, int what) {
        if (!isSide(side) || !isAhead(n) || !isPart(what)) return BAD;
        start.stand.copyFrom(now.stand);
        long top = likely(now.roofs, side, start, n);
        return part(top, power(now.roofs.allOdds(), n), what);
    }

    public long byWind(int w, int n, int what) {
        if (!isWind(w) || !isAhead(n) || n < 1 || !isPart(what)) return BAD;
        if (isOver()) return STATE;
        return part(likelyNow(w, n), power(now.roofs.allOdds(), n - 1), what);
    }

    public int best(int w, int n) {
        if (!isWind(w) || !isAhead(n) || n < 1) return BAD;
        if (isOver()) return STATE;
        likelyNow(w, n);
        return start.choice;
    }

    public int hope(int n) {
        if (!isAhead(n) || n < 1) return BAD;
        if (isOver()) return STATE;
        int wind = 0;
        long most = -1;
        for (int w = 0; w < WINDS; w++) {
            long top = likelyNow(w, n);
            if (top <= most) continue;
            most = top;
            wind = w;
        }
        return wind;
    }

    // ---- how it came

    public int since(int k, int n, int what) {
        if (!isImage(k) || !isAhead(n) || !isAsked(what)) return BAD;
        Game image = imageAt(k);
        if (image == null) return STATE;
        rows.reached.aim(now.roofs, now.stand);
        int found = rows.find(now.roofs, image.stand, rows.reached, start, n);
        if (what == 0) return found;
        int i = what - 10;
        return found > 0 && i < n ? rows.firstTurn(i) : NONE;
    }

    // ---- fog

    public int see(int i, int side) {
        if (!now.roofs.isSquare(i) || !isSide(side) && side != NONE) return BAD;
        return now.addSeen(i, side) ? now.seen : FULL;
    }

    public int forget(int n) {
        int had = now.seen;
        if (n < 0 || n > had) return BAD;
        now.seen = n;
        return had;
    }

    public int fits(int n) {
        return isAhead(n) ? findFits(NONE, n) : BAD;
    }

    public int where(int p, int n) {
        if (!now.roofs.isPiece(p) || !isAhead(n)) return BAD;
        findFits(p, n);
        return rows.places;
    }

    // ---- blowing

    public int tell(int w) {
        if (!isWind(w)) return BAD;
        return now.addTold(w) ? now.told : FULL;
    }

    public int drop(int n) {
        int had = now.told;
        if (n < 0 || n > had) return BAD;
        now.told = n;
        return had;
    }

    public int blow(int what) {
        if (!isAsked(what)) return BAD;
        if (isOver()) return STATE;
        blowing.find(now, start);
        if (blowing.fewest == NONE || what == 0) return blowing.fewest;
        int i = what - 10;
        return i < now.told ? blowing.windAt(i) : NONE;
    }

    // ---- by a seed

    public int gale(int seed, int n, int what) {
        if (n < 1 || n > MOST_GALES || !isPart(what)) return BAD;
        Stand stand = start.stand;
        stand.copyFrom(now.stand);
        int grown = seed;
        int went = 0;
        for (; went < n && stand.lostSide(now.roofs) == NONE; went++) {
            grown = grown * 1103515245 + 12345;
            int wind = now.roofs.windBy(grown >>> 16 & 0x7fff);
            int any = stand.listMoves(now.roofs, wind, start.moves);
            stand.play(now.roofs, wind, any > 0 ? start.moveAt(0) : NONE);
        }
        return what == 0 ? went : stand.lostSide(now.roofs);
    }

    // ---- images, sheets

    public int keep(int k) {
        if (!isImage(k)) return BAD;
        int was = kept[k] ? 1 : 0;
        Game image = images[k];
        if (image == null) return BAD;
        image.copyFrom(now);
        kept[k] = true;
        return was;
    }

    public int back(int k) {
        if (!isImage(k)) return BAD;
        Game image = imageAt(k);
        if (image == null) return STATE;
        now.copyFrom(image);
        return now.turns;
    }

    public int sheet(int k, int lane, int n) {
        if (!isSheet(k) || !isLane(lane) || n > MOST_CELLS) return BAD;
        if (n < 0) return -10 - SIZE;
        sheets.renew(k, lane, n);
        return 1;
    }

    public int lay(int k, int i, int v) {
        if (!isSheet(k)) return BAD;
        int found = sheets.faultAt(k, i);
        if (found != 0) return -10 - found;
        sheets.set(k, i, v);
        return 1;
    }

    public int read(int k, int lane, int f, int n) {
        if (!isSheet(k) || !isLane(lane) || n < 0 || n > MOST_READ) return BAD;
        int found = n == 0 ? 0 : sheets.faultAs(k, lane);
        int whole = 0;
        if (n > 0 && found == 0) {
            whole = sheets.wholeTurns(k, f, n);
            if (whole < n) found = INDEX;
        }
        int refused = playSheet(k, f, whole);
        if (refused != NONE) return -20 - refused;
        latestTorn = found;
        return whole;
    }

    public int torn() {
        return latestTorn;
    }

    public int count(int what) {
        switch (what) {
            case 0: return now.stand.standing(now.roofs);
            case 1: return now.seen;
            case 2: return now.told;
            case 3: return (kept[0] ? 1 : 0) + (kept[1] ? 1 : 0);
            case 4: return tape.length;
            case 5: return sheets.sizeOf(0);
            case 6: return now.stand.allOil(now.roofs);
            default: return BAD;
        }
    }

    // ---- what the calls ask of their numbers

    private static boolean isSide(int side) {
        return side >= 0 && side < SIDES;
    }

    private static boolean isWind(int w) {
        return w >= 0 && w < WINDS;
    }

    private static boolean isAhead(int n) {
        return n >= 0 && n <= MOST_AHEAD;
    }

    private static boolean isPart(int what) {
        return what == 0 || what == 1;
    }

    private static boolean isAsked(int what) {
        return what == 0 || what >= 10 && what <= 12;
    }

    private static boolean isImage(int k) {
        return k >= 0 && k < IMAGES;
    }

    private static boolean isSheet(int k) {
        return k >= 0 && k < SHEETS;
    }

    private static boolean isLane(int lane) {
        return lane >= 0 && lane < LANES;
    }

    // ---- helpers of the calls

    private boolean isOver() {
        return now.stand.lostSide(now.roofs) != NONE;
    }

    private Game imageAt(int k) {
        return isImage(k) && kept[k] ? images[k] : null;
    }

    private int listNow(int w) {
        return now.stand.listMoves(now.roofs, w, start.moves);
    }

    private int playNow(int w, int k) {
        if (!isWind(w)) return BAD;
        int n = listNow(w);
        boolean isMove = k >= 0 && k < n;
        boolean isNone = k == NONE && n == 0;
        if (!isMove && !isNone) return BAD;
        if (isOver()) return STATE;
        if (now.turns >= MOST_TURNS) return FULL;
        now.turns++;
        return now.stand.play(now.roofs, w, isMove ? start.moveAt(k) : NONE);
    }

    /** Plays TURNS from a SHEET: which of them is refused, so that none goes, or NONE. */
    private int playSheet(int k, int f, int n) {
        int turnsBefore = now.turns;
        before.copyFrom(now.stand);
        for (int i = 0; i < n; i++) {
            int cell = f + 2 * i;
            int answer = playNow(sheets.cellAt(k, cell), sheets.cellAt(k, cell + 1));
            if (answer != BAD && answer != STATE && answer != FULL) continue;
            now.stand.copyFrom(before);
            now.turns = turnsBefore;
            return i;
        }
        return NONE;
    }

    private int findFits(int p, int n) {
        rows.asSeen.aim(now);
        rows.watched = p;
        return rows.find(now.roofs, now.stand, rows.asSeen, start, n);
    }

    private long likelyNow(int w, int n) {
        start.stand.copyFrom(now.stand);
        return likelyBy(now.roofs, now.stand.mover, start, w, n);
    }

    private static Step chain(int links) {
        Step first = new Step(null);
        for (int i = 0; i < links; i++) first = new Step(first);
        return first;
    }

    // ---- fractions

    private static long power(int base, int times) {
        long all = 1;
        for (int i = 0; i < times; i++) all *= base;
        return all;
    }

    private static long part(long top, long bottom, int what) {
        long shared = greatestShared(top, bottom);
        if (shared < 1) return BAD;
        return what == 0 ? top / shared : bottom / shared;
    }

    private static long greatestShared(long a, long b) {
        long more = a;
        long less = b;
        for (int i = 0; i < 200 && less > 0; i++) {
            long rest = more % less;
            more = less;
            less = rest;
        }
        return more;
    }

    // ---- looking ahead

    /** How likely a SIDE takes the king in the TURNS left: a numerator over all ODDS to the power of these. */
    private static long likely(Roofs roofs, int side, Step here, int left) {
        int lost = here.stand.lostSide(roofs);
        if (lost != NONE) return lost == side ? 0 : power(roofs.allOdds(), left);
        // The last TURN helps only the one who has it.
        if (left <= 0 || left == 1 && here.stand.mover != side) return 0;
        long sum = 0;
        for (int w = 0; w < WINDS; w++) {
            int odds = roofs.oddsOf(w);
            if (odds > 0) sum += odds * likelyBy(roofs, side, here, w, left);
        }
        return sum;
    }

    /** The same with a WIND that blows now, over one power less; the best MOVE is the choice of the Step. */
    private static long likelyBy(Roofs roofs, int side, Step here, int wind, int left) {
        int n = here.stand.listMoves(roofs, wind, here.moves);
        here.choice = n > 0 ? 0 : NONE;
        boolean wants = here.stand.mover == side;
        if (here.next == null || left <= 1) return wants && here.chooseKing(roofs, n) ? 1 : 0;
        long utmost = wants ? power(roofs.allOdds(), left - 1) : 0;
        long best = -1;
        for (int k = 0; (k < n || k == 0) && best != utmost; k++) {
            here.tread(roofs, wind, n > 0 ? here.moveAt(k) : NONE);
            long value = likely(roofs, side, here.next, left - 1);
            if (best >= 0 && (wants ? value <= best : value >= best)) continue;
            best = value;
            if (n > 0) here.choice = k;
        }
        return best;
    }

    private static int countRows(Rows rows, Ending ending, Roofs roofs, Step here, int left) {
        if (!ending.mayCome(here.stand, left)) return 0;
        if (left <= 0) {
            rows.note(here.stand);
            return 1;
        }
        if (here.next == null || here.stand.lostSide(roofs) != NONE) return 0;
        int sum = 0;
        for (int w = 0; w < WINDS; w++) {
            int n = here.stand.listMoves(roofs, w, here.moves);
            for (int k = 0; k < n || k == 0; k++) {
                here.label = 100 * w + (n > 0 ? k : NO_MOVE);
                here.tread(roofs, w, n > 0 ? here.moveAt(k) : NONE);
                sum += countRows(rows, ending, roofs, here.next, left - 1);
            }
        }
        return sum;
    }

    /** Whether a SIDE can take the king as these WINDS blow from the i-th on. */
    private static boolean canTake(Roofs roofs, int side, Step here, int[] winds, int i, int n) {
        int lost = here.stand.lostSide(roofs);
        if (lost != NONE) return lost != side;
        if (i < 0 || i >= n || i >= winds.length || here.next == null) return false;
        int any = here.stand.listMoves(roofs, winds[i], here.moves);
        for (int k = 0; k < any || k == 0; k++) {
            here.tread(roofs, winds[i], any > 0 ? here.moveAt(k) : NONE);
            if (canTake(roofs, side, here.next, winds, i + 1, n)) return true;
        }
        return false;
    }

    /** What stays as the PIECES move. */
    private static final class Roofs {
        final int[] sides = new int[MOST_PIECES];
        final int[] kinds = new int[MOST_PIECES];
        final int[] odds = new int[WINDS];
        int wide, high, steeples, pieces;

        void clear() {
            wide = 3;
            high = 3;
            steeples = 0;
            pieces = 0;
            for (int w = 0; w < odds.length; w++) odds[w] = 1;
        }

        void copyFrom(Roofs other) {
            wide = other.wide;
            high = other.high;
            steeples = other.steeples;
            pieces = other.pieces;
            System.arraycopy(other.sides, 0, sides, 0, MOST_PIECES);
            System.arraycopy(other.kinds, 0, kinds, 0, MOST_PIECES);
            System.arraycopy(other.odds, 0, odds, 0, WINDS);
        }

        int squares() {
            return wide * high;
        }

        boolean isSquare(int i) {
            return i >= 0 && i < wide * high;
        }

        boolean isPiece(int p) {
            return p >= 0 && p < pieces;
        }

        int sideOf(int p) {
            return p >= 0 && p < pieces && p < sides.length ? sides[p] : NONE;
        }

        int kindOf(int p) {
            return p >= 0 && p < pieces && p < kinds.length ? kinds[p] : NONE;
        }

        int oddsOf(int w) {
            return w >= 0 && w < odds.length ? odds[w] : 0;
        }

        void setOdds(int w, int v) {
            if (w >= 0 && w < odds.length) odds[w] = v;
        }

        int allOdds() {
            int sum = 0;
            for (int w = 0; w < odds.length; w++) sum += odds[w];
            return sum;
        }

        /** The WIND on which a number falls, each as wide as its ODDS. */
        int windBy(int number) {
            int all = allOdds();
            int rest = all > 0 ? number % all : 0;
            for (int w = 0; w < odds.length; w++) {
                if (rest < odds[w]) return w;
                rest -= odds[w];
            }
            return CALM;
        }

        boolean isClosed(int square) {
            return (steeples & bitOf(square)) != 0;
        }

        void close(int square, boolean is) {
            if (is) steeples |= bitOf(square);
            else steeples &= ~bitOf(square);
        }

        /** The next SQUARE as it blows, NONE beyond the edge. */
        int nextSquare(int square, int wind) {
            int squares = wide * high;
            if (square < 0 || square >= squares || wide < 1) return NONE;
            switch (wind) {
                case 0: return square >= wide ? square - wide : NONE;
                case 1: return square % wide < wide - 1 ? square + 1 : NONE;
                case 2: return square + wide < squares ? square + wide : NONE;
                case 3: return square % wide > 0 ? square - 1 : NONE;
                default: return NONE;
            }
        }

        static int bitOf(int square) {
            return square >= 0 && square < MOST_SQUARES ? 1 << square : 0;
        }
    }

    /** Where all PIECES stand, with OIL, and which SIDE is to move. */
    private static final class Stand {
        final int[] places = new int[MOST_PIECES];
        final int[] oils = new int[MOST_PIECES];
        // Bits of the SQUARES of each SIDE follow the places, for they are asked far more often than changed.
        final int[] held = new int[SIDES];
        int mover;

        void clear() {
            for (int p = 0; p < MOST_PIECES; p++) {
                places[p] = NONE;
                oils[p] = 0;
            }
            for (int side = 0; side < SIDES; side++) held[side] = 0;
            mover = 0;
        }

        void copyFrom(Stand other) {
            System.arraycopy(other.places, 0, places, 0, MOST_PIECES);
            System.arraycopy(other.oils, 0, oils, 0, MOST_PIECES);
            System.arraycopy(other.held, 0, held, 0, SIDES);
            mover = other.mover;
        }

        int placeOf(int p) {
            return p >= 0 && p < places.length ? places[p] : NONE;
        }

        int oilOf(int p) {
            return p >= 0 && p < oils.length ? oils[p] : 0;
        }

        void fill(int p, int v) {
            if (p >= 0 && p < oils.length) oils[p] = v;
        }

        int heldBy(int side) {
            return side >= 0 && side < held.length ? held[side] : 0;
        }

        /** A PIECE comes to a SQUARE, or is TAKEN (NONE). */
        void settle(Roofs roofs, int p, int square) {
            int side = roofs.sideOf(p);
            if (!isSide(side) || p >= places.length) return;
            held[side] = held[side] & ~Roofs.bitOf(places[p]) | Roofs.bitOf(square);
            places[p] = square;
        }

        int pieceOn(Roofs roofs, int square) {
            for (int p = 0; p < roofs.pieces; p++) {
                if (placeOf(p) == square) return p;
            }
            return NONE;
        }

        int kingOf(Roofs roofs, int side) {
            for (int p = 0; p < roofs.pieces; p++) {
                if (roofs.kindOf(p) == KING && roofs.sideOf(p) == side) return p;
            }
            return NONE;
        }

        int lostSide(Roofs roofs) {
            for (int p = 0; p < roofs.pieces; p++) {
                if (placeOf(p) == NONE && roofs.kindOf(p) == KING) return roofs.sideOf(p);
            }
            return NONE;
        }

        int standing(Roofs roofs) {
            int sum = 0;
            for (int p = 0; p < roofs.pieces; p++) {
                if (placeOf(p) != NONE) sum++;
            }
            return sum;
        }

        int allOil(Roofs roofs) {
            int sum = 0;
            for (int p = 0; p < roofs.pieces; p++) sum += oilOf(p);
            return sum;
        }

        /** Lists the MOVES by a WIND, each as 100 times the PIECE and the SQUARE: how many. */
        int listMoves(Roofs roofs, int wind, int[] into) {
            if (wind == CALM || lostSide(roofs) != NONE) return 0;
            int n = 0;
            for (int p = 0; p < roofs.pieces; p++) {
                int bits = targets(roofs, p, wind);
                for (int i = 0; i < MOST_SQUARES && bits != 0; i++) {
                    if ((bits & 1) != 0 && n < into.length) into[n++] = 100 * p + i;
                    bits >>>= 1;
                }
            }
            return n;
        }

        /** Bits of the SQUARES to which a PIECE has MOVES by a WIND. */
        private int targets(Roofs roofs, int p, int wind) {
            int from = placeOf(p);
            if (from == NONE || oilOf(p) < 1 || roofs.sideOf(p) != mover) return 0;
            int open = ~(roofs.steeples | heldBy(mover));
            switch (roofs.kindOf(p)) {
                case RUNNER: return open & run(roofs, from, wind);
                case SPARROW: return open & hop(roofs, from, wind);
                default: return open & Roofs.bitOf(roofs.nextSquare(from, wind));
            }
        }

        private int run(Roofs roofs, int from, int wind) {
            int stops = roofs.steeples | heldBy(0) | heldBy(1);
            int bits = 0;
            int at = from;
            for (int i = 1; i < LONGEST_SIDE; i++) {
                at = roofs.nextSquare(at, wind);
                bits |= Roofs.bitOf(at);
                if (at == NONE || (stops & Roofs.bitOf(at)) != 0) return bits;
            }
            return bits;
        }

        private int hop(Roofs roofs, int from, int wind) {
            int two = roofs.nextSquare(roofs.nextSquare(from, wind), wind);
            int left = roofs.nextSquare(two, wind + 3 & 3);
            int right = roofs.nextSquare(two, wind + 1 & 3);
            return Roofs.bitOf(left) | Roofs.bitOf(right);
        }

        /** A TURN by a WIND with a MOVE (NONE): the PIECE that is TAKEN, or NONE. */
        int play(Roofs roofs, int wind, int move) {
            int moved = move >= 0 ? move / 100 : NONE;
            int taken = move >= 0 ? pieceOn(roofs, move % 100) : NONE;
            if (taken != NONE) settle(roofs, taken, NONE);
            if (moved != NONE) settle(roofs, moved, move % 100);
            if (wind != CALM) burn(roofs, moved);
            mover = 1 - mover;
            return taken;
        }

        private void burn(Roofs roofs, int moved) {
            for (int p = 0; p < roofs.pieces; p++) {
                boolean idle = p != moved && roofs.sideOf(p) == mover && placeOf(p) != NONE;
                if (idle && oilOf(p) > 0) fill(p, oilOf(p) - 1);
            }
        }
    }

    /** All that an IMAGE keeps. */
    private static final class Game {
        final Roofs roofs = new Roofs();
        final Stand stand = new Stand();
        final int[] seenSquares = new int[MOST_SEEN];
        final int[] seenSides = new int[MOST_SEEN];
        final int[] toldWinds = new int[MOST_TOLD];
        int turns, seen, told;

        void clear() {
            roofs.clear();
            stand.clear();
            turns = 0;
            seen = 0;
            told = 0;
        }

        void copyFrom(Game other) {
            roofs.copyFrom(other.roofs);
            stand.copyFrom(other.stand);
            System.arraycopy(other.seenSquares, 0, seenSquares, 0, MOST_SEEN);
            System.arraycopy(other.seenSides, 0, seenSides, 0, MOST_SEEN);
            System.arraycopy(other.toldWinds, 0, toldWinds, 0, MOST_TOLD);
            turns = other.turns;
            seen = other.seen;
            told = other.told;
        }

        void addPiece(int kind, int side, int square, int oil) {
            int p = roofs.pieces;
            if (p < 0 || p >= MOST_PIECES) return;
            roofs.pieces = p + 1;
            roofs.kinds[p] = kind;
            roofs.sides[p] = side;
            stand.settle(roofs, p, square);
            stand.fill(p, oil);
        }

        void addTwoKings() {
            addPiece(KING, 0, 0, MOST_OIL);
            addPiece(KING, 1, roofs.squares() - 1, MOST_OIL);
        }

        boolean addSeen(int square, int side) {
            if (seen < 0 || seen >= MOST_SEEN) return false;
            seenSquares[seen] = square;
            seenSides[seen] = side;
            seen++;
            return true;
        }

        boolean addTold(int wind) {
            if (told < 0 || told >= MOST_TOLD) return false;
            toldWinds[told] = wind;
            told++;
            return true;
        }

        int toldAt(int i) {
            return i >= 0 && i < told && i < MOST_TOLD ? toldWinds[i] : NONE;
        }
    }

    /** A place in a ROW: where all stand, the MOVES there, and what is tried as the next TURN. */
    private static final class Step {
        final Stand stand = new Stand();
        final int[] moves = new int[MOST_MOVES];
        final Step next;
        int label, choice;

        Step(Step next) {
            this.next = next;
        }

        int moveAt(int k) {
            return k >= 0 && k < moves.length ? moves[k] : NONE;
        }

        /** Chooses the first of n MOVES that takes the other king: whether there is one. */
        boolean chooseKing(Roofs roofs, int n) {
            int square = stand.placeOf(stand.kingOf(roofs, 1 - stand.mover));
            for (int k = 0; k < n && k < moves.length; k++) {
                if (moves[k] % 100 != square) continue;
                choice = k;
                return true;
            }
            return false;
        }

        /** Makes the next Step by a TURN from here. */
        void tread(Roofs roofs, int wind, int move) {
            if (next == null) return;
            next.stand.copyFrom(stand);
            next.stand.play(roofs, wind, move);
        }
    }

    /** What must be behind a ROW. */
    private abstract static class Ending {
        /** Whether it may come in the TURNS left; with 0 left whether it is so. */
        abstract boolean mayCome(Stand stand, int left);
    }

    /** All PIECES stand as they do now. */
    private static final class Reached extends Ending {
        private Roofs roofs;
        private Stand goal;

        void aim(Roofs roofs, Stand goal) {
            this.roofs = roofs;
            this.goal = goal;
        }

        boolean mayCome(Stand stand, int left) {
            if (roofs == null || goal == null) return false;
            if ((stand.mover + left) % 2 != goal.mover) return false;
            int strayed = 0;
            for (int p = 0; p < roofs.pieces; p++) {
                boolean isThere = stand.placeOf(p) == goal.placeOf(p);
                if (left == 0 && !(isThere && stand.oilOf(p) == goal.oilOf(p))) return false;
                if (!isThere && goal.placeOf(p) != NONE) strayed++;
            }
            // Each TURN brings one PIECE at most to its SQUARE.
            return strayed <= left;
        }
    }

    /** All is as SEEN. */
    private static final class AsSeen extends Ending {
        private final int[] wanted = new int[SIDES];
        private int empty;

        void aim(Game game) {
            for (int side = 0; side < SIDES; side++) wanted[side] = 0;
            empty = 0;
            for (int i = 0; i < game.seen && i < MOST_SEEN; i++) {
                int bit = Roofs.bitOf(game.seenSquares[i]);
                int side = game.seenSides[i];
                if (isSide(side)) wanted[side] |= bit;
                else empty |= bit;
            }
        }

        boolean mayCome(Stand stand, int left) {
            int unmet = empty & (stand.heldBy(0) | stand.heldBy(1));
            for (int side = 0; side < SIDES; side++) unmet |= wanted[side] & ~stand.heldBy(side);
            // Each TURN changes two SQUARES at most.
            return Integer.bitCount(unmet) <= 2 * left;
        }
    }

    /** The ROWS that end as they must: how many, the first one, and where a PIECE stands behind them. */
    private static final class Rows {
        final Reached reached = new Reached();
        final AsSeen asSeen = new AsSeen();
        private final int[] firstLabels = new int[MOST_AHEAD];
        private Step start;
        private boolean noted;
        int watched, places;

        int find(Roofs roofs, Stand from, Ending ending, Step first, int n) {
            start = first;
            noted = false;
            places = 0;
            first.stand.copyFrom(from);
            return countRows(this, ending, roofs, first, n);
        }

        /** A ROW has ended as it must, the labels of the Steps tell its TURNS. */
        void note(Stand stand) {
            int place = stand.placeOf(watched);
            places |= place == NONE ? TAKEN_BIT : Roofs.bitOf(place);
            if (noted) return;
            noted = true;
            Step step = start;
            for (int i = 0; i < firstLabels.length && step != null; i++) {
                firstLabels[i] = step.label;
                step = step.next;
            }
        }

        int firstTurn(int i) {
            return i >= 0 && i < firstLabels.length ? firstLabels[i] : NONE;
        }
    }

    /** The fewest TOLD WINDS to be blown otherwise, so that a king can be taken. */
    private static final class Blowing {
        private final int[] tried = new int[MOST_TOLD];
        private final int[] found = new int[MOST_TOLD];
        int fewest;

        void find(Game game, Step start) {
            fewest = NONE;
            long all = power(WINDS, game.told);
            for (int code = 0; code < all; code++) {
                int others = spell(game, code);
                if (fewest != NONE && others >= fewest) continue;
                start.stand.copyFrom(game.stand);
                if (!canTake(game.roofs, game.stand.mover, start, tried, 0, game.told)) continue;
                fewest = others;
                System.arraycopy(tried, 0, found, 0, MOST_TOLD);
            }
        }

        /** Spells a number as WINDS, the first one highest: how many of these are others than TOLD. */
        private int spell(Game game, int code) {
            int rest = code;
            int others = 0;
            for (int i = Math.min(game.told, MOST_TOLD) - 1; i >= 0; i--) {
                tried[i] = rest % WINDS;
                rest /= WINDS;
                if (tried[i] != game.toldAt(i)) others++;
            }
            return others;
        }

        int windAt(int i) {
            return i >= 0 && i < found.length ? found[i] : NONE;
        }
    }

    /** Rows of CELLS, kept as int, cut to their lane as they are laid. */
    private static final class Sheets {
        private final int[] lanes = new int[SHEETS];
        private final int[] sizes = new int[SHEETS];
        private final int[][] cells = new int[SHEETS][MOST_CELLS];

        Sheets() {
            for (int k = 0; k < SHEETS; k++) lanes[k] = NONE;
        }

        void renew(int k, int lane, int n) {
            if (!isSheet(k)) return;
            lanes[k] = lane;
            sizes[k] = n;
            for (int i = 0; i < MOST_CELLS; i++) cells[k][i] = 0;
        }

        int sizeOf(int k) {
            return isSheet(k) && lanes[k] != NONE ? sizes[k] : NONE;
        }

        int faultAt(int k, int i) {
            int size = sizeOf(k);
            if (size == NONE) return NULL;
            return i < 0 || i >= size ? INDEX : 0;
        }

        int faultAs(int k, int lane) {
            if (sizeOf(k) == NONE) return NULL;
            return isSheet(k) && lanes[k] == lane ? 0 : CAST;
        }

        /** How many TURNS of n, two CELLS each from f on, stand whole on a SHEET. */
        int wholeTurns(int k, int f, int n) {
            int size = sizeOf(k);
            return f < 0 || f >= size ? 0 : Math.min(n, (size - f) / 2);
        }

        int cellAt(int k, int i) {
            return faultAt(k, i) == 0 && i < MOST_CELLS ? cells[k][i] : 0;
        }

        void set(int k, int i, int v) {
            if (faultAt(k, i) != 0 || i >= MOST_CELLS) return;
            cells[k][i] = lanes[k] == 0 ? (byte) v : lanes[k] == 1 ? (short) v : v;
        }
    }

    /** The TAPE, and how its text is read into a draft, which is taken only when it is whole. */
    private static final class Tape {
        private static final int NAME = 1, NUMBER = 2, SIGN = 3, LENGTH = 4;

        final byte[] bytes = new byte[TAPE_BYTES];
        final Game draft = new Game();
        int length, lines, fault, faultPlace;
        private boolean boardTold, oddsTold, turnTold;
        private int at, token, tokenPlace, value;

        boolean append(long v) {
            if (length < 0 || length + 8 > TAPE_BYTES) return false;
            for (int i = 0; i < 8; i++) bytes[length + i] = (byte) (v >>> 56 - 8 * i);
            length += 8;
            return true;
        }

        boolean tellAll() {
            draft.clear();
            at = 0;
            lines = 0;
            fault = 0;
            faultPlace = 0;
            boardTold = false;
            oddsTold = false;
            turnTold = false;
            // A line has a byte at least, so that there are no more lines than bytes.
            for (int i = 0; i <= length; i++) {
                if (!readToken()) return false;
                if (token == LENGTH) return isWhole();
                if (!readLine()) return false;
                lines++;
            }
            return false;
        }

        private boolean fail(int number, int place) {
            fault = number;
            faultPlace = place;
            return false;
        }

        // -- lines

        private boolean readLine() {
            if (isName("board")) return readBoard();
            if (isName("steeple")) return readSteeple();
            if (isName("piece")) return readPiece();
            if (isName("odds")) return readOdds();
            if (isName("turn")) return readTurn();
            return fail(2, tokenPlace);
        }

        private boolean readBoard() {
            if (boardTold) return fail(4, tokenPlace);
            boardTold = true;
            if (!readNumber(2, LONGEST_SIDE)) return false;
            draft.roofs.wide = value;
            if (!readNumber(2, LONGEST_SIDE)) return false;
            draft.roofs.high = value;
            return readSign();
        }

        private boolean readSteeple() {
            if (!readFreeSquare()) return false;
            draft.roofs.close(value, true);
            return readSign();
        }

        private boolean readPiece() {
            if (draft.roofs.pieces >= MOST_PIECES) return fail(5, tokenPlace);
            if (!readToken()) return false;
            int kind = kindNamed();
            if (kind == NONE) return fail(2, tokenPlace);
            if (!readNumber(0, SIDES - 1)) return false;
            int side = value;
            if (!readFreeSquare()) return false;
            int square = value;
            if (!readNumber(0, MOST_OIL)) return false;
            draft.addPiece(kind, side, square, value);
            return readSign();
        }

        private boolean readOdds() {
            if (oddsTold) return fail(4, tokenPlace);
            oddsTold = true;
            for (int w = 0; w < WINDS; w++) {
                if (!readNumber(0, MOST_ODDS)) return false;
                draft.roofs.setOdds(w, value);
            }
            return draft.roofs.allOdds() > 0 ? readSign() : fail(3, tokenPlace);
        }

        private boolean readTurn() {
            if (turnTold) return fail(4, tokenPlace);
            turnTold = true;
            if (!readNumber(0, SIDES - 1)) return false;
            draft.stand.mover = value;
            return readSign();
        }

        /** A SQUARE without STEEPLE and PIECE. */
        private boolean readFreeSquare() {
            if (!readNumber(0, MOST_SQUARES - 1)) return false;
            boolean isFree = !draft.roofs.isClosed(value) && draft.stand.pieceOn(draft.roofs, value) == NONE;
            return isFree || fail(4, tokenPlace);
        }

        private boolean readNumber(int least, int most) {
            if (!readToken()) return false;
            if (token != NUMBER) return fail(2, tokenPlace);
            return value >= least && value <= most || fail(3, tokenPlace);
        }

        private boolean readSign() {
            return readToken() && (token == SIGN || fail(2, tokenPlace));
        }

        private int kindNamed() {
            if (isName("king")) return KING;
            if (isName("man")) return MAN;
            if (isName("runner")) return RUNNER;
            return isName("sparrow") ? SPARROW : NONE;
        }

        // -- what is asked behind all lines

        private boolean isWhole() {
            if (!hasItsSquares()) return fail(6, length);
            if (draft.roofs.pieces > 0) return kings(0) == 1 && kings(1) == 1 || fail(7, length);
            if (draft.roofs.isClosed(0) || draft.roofs.isClosed(draft.roofs.squares() - 1)) return fail(8, length);
            draft.addTwoKings();
            return true;
        }

        private boolean hasItsSquares() {
            int used = draft.roofs.steeples | draft.stand.heldBy(0) | draft.stand.heldBy(1);
            return used >>> draft.roofs.squares() == 0;
        }

        private int kings(int side) {
            int sum = 0;
            for (int p = 0; p < draft.roofs.pieces; p++) {
                if (draft.roofs.kindOf(p) == KING && draft.roofs.sideOf(p) == side) sum++;
            }
            return sum;
        }

        // -- tokens

        private boolean readToken() {
            at = endOfRun(at, ' ', ' ');
            tokenPlace = at;
            int first = byteAt(at);
            if (at >= length) {
                token = LENGTH;
            } else if (first == ';') {
                token = SIGN;
                at++;
            } else if (first >= 'a' && first <= 'z') {
                token = NAME;
                at = endOfRun(at, 'a', 'z');
            } else if (first >= '0' && first <= '9') {
                token = NUMBER;
                at = endOfRun(at, '0', '9');
                if (at - tokenPlace > 2) return fail(1, tokenPlace);
                value = first - '0';
                if (at - tokenPlace == 2) value = 10 * value + byteAt(at - 1) - '0';
            } else {
                return fail(1, tokenPlace);
            }
            return true;
        }

        private int byteAt(int place) {
            return place >= 0 && place < length && place < bytes.length ? bytes[place] : NONE;
        }

        /** Where the run of bytes from least to most that begins at a place is at its end. */
        private int endOfRun(int place, char least, char most) {
            int end = place;
            while (end >= 0 && end < length && end < bytes.length && bytes[end] >= least && bytes[end] <= most) end++;
            return end;
        }

        private boolean isName(String name) {
            if (token != NAME || at - tokenPlace != name.length()) return false;
            for (int i = 0; i < name.length(); i++) {
                if (byteAt(tokenPlace + i) != name.charAt(i)) return false;
            }
            return true;
        }
    }
}
