/**
 * Every number of every call: the least and the most that are taken, with what is due for them, and what is refused on
 * both sides of these, which changes nothing.
 */
public final class RangesTest {
    private static final int BAD = -1, NONE = -4;
    private static final int FAR = Integer.MAX_VALUE, DEEP = Integer.MIN_VALUE;

    private final Check check = new Check("RangesTest");
    private final Twins twins = new Twins(check);

    interface Call {
        long of(WeatherChess x, int v);
    }

    public static void main(String[] args) {
        RangesTest t = new RangesTest();
        t.text();
        t.changed();
        t.turns();
        t.gales();
        t.since();
        t.fog();
        t.blowing();
        t.seeds();
        t.images();
        t.sheets();
        t.squares();
        t.others();
        t.check.close();
    }

    /** Least and most are taken, each by an object of its own; the next ones and those far away are BAD. */
    private void range(String name, Twins.Way way, int least, long dueLeast, int most, long dueMost, Call call) {
        check.due(name + " " + least, call.of(Twins.gone(way), least), dueLeast);
        check.due(name + " " + most, call.of(Twins.gone(way), most), dueMost);
        if (least > DEEP) bad(name, way, call, least - 1, DEEP);
        if (most < FAR) bad(name, way, call, most + 1, FAR);
    }

    private void bad(String name, Twins.Way way, Call call, int... all) {
        for (int v : all) twins.keeps(name + " " + v, way, x -> call.of(x, v), BAD);
    }

    private void rich(String name, int least, long dueLeast, int most, long dueMost, Call call) {
        range(name, Ways::rich, least, dueLeast, most, dueMost, call);
    }

    // ---- 3 to 9
    private void text() {
        check.says("THE TAPE keeps its first n bytes: how many it had. BAD (n above that, too).");
        rich("end", 0, 7, 7, 7, (x, n) -> x.end(n));
        range("end", Ways::none, 0, 0, 0, 0, (x, n) -> x.end(n));
        range("end", Ways::full, 0, 320, 320, 320, (x, n) -> x.end(n));
        check.says("0 WIDE, 1 HIGH, 2 PIECES, 3 STEEPLES (bits), 4 TURN, 5 TURNS, 6 which SIDE has lost its king (NONE). BAD.");
        rich("rule", 0, 3, 6, NONE, (x, what) -> x.rule(what));
        check.says("The PIECE on a SQUARE. BAD; NONE: none.");
        rich("square", 0, 0, 8, 1, (x, i) -> x.square(i));
        check.says("Of a PIECE: 0 SIDE, 1 KIND, 2 SQUARE (NONE: it is TAKEN), 3 OIL. BAD.");
        rich("piece p", 0, 0, 3, 2, (x, p) -> x.piece(p, 2));
        rich("piece what", 0, 1, 3, 6, (x, what) -> x.piece(1, what));
        check.says("ODDS of a WIND. BAD.");
        rich("odd", 0, 1, 4, 1, (x, w) -> x.odd(w));
    }

    // ---- 10 to 14
    private void changed() {
        check.says("OIL of a PIECE becomes v: what it was. BAD.");
        rich("oil p", 0, 9, 3, 3, (x, p) -> x.oil(p, 5));
        rich("oil v", 0, 6, 9, 6, (x, v) -> x.oil(1, v));
        check.says("A PIECE is on a SQUARE: where it was (NONE: it was TAKEN). BAD");
        rich("put p", 0, 0, 3, 2, (x, p) -> x.put(p, 7));
        rich("put i", 0, 0, 7, 0, (x, i) -> x.put(0, i));
        bad("put i", Ways::rich, (x, i) -> x.put(3, i), 9);
        check.says("A STEEPLE on a SQUARE, or none: whether there was. BAD");
        rich("no steeple i", 1, 0, 7, 0, (x, i) -> x.steeple(i, false));
        rich("steeple i", 1, 0, 7, 0, (x, i) -> x.steeple(i, true));
        bad("steeple i", Ways::rich, (x, i) -> x.steeple(i, true), -1, 9);
        bad("no steeple i", Ways::rich, (x, i) -> x.steeple(i, false), -1, 9);
        check.says("ODDS of a WIND become v: what they were. BAD");
        rich("weigh w", 0, 1, 4, 1, (x, w) -> x.weigh(w, 8));
        rich("weigh v", 0, 3, 9, 3, (x, v) -> x.weigh(3, v));
        check.says("TURN is a SIDE's: whose it was. BAD.");
        rich("turn", 0, 0, 1, 0, (x, side) -> x.turn(side));
    }

    // ---- 15 to 17
    private void turns() {
        check.says("How many MOVES there are by a WIND. BAD (0 to 4).");
        rich("moves", 0, 1, 4, 0, (x, w) -> x.moves(w));
        check.says("MOVE k (0 on) by a WIND: 100 times the PIECE, and the SQUARE. BAD: also no such MOVE.");
        rich("move w", 0, 203, 2, 3, (x, w) -> x.move(w, 0));
        rich("move k", 0, 1, 2, 208, (x, k) -> x.move(1, k));
        bad("move w", Ways::rich, (x, w) -> x.move(w, 0), 4, 5);
        bad("move by calm", Ways::rich, (x, k) -> x.move(4, k), 0, NONE, 99);
        bad("move NONE", Ways::rich, (x, k) -> x.move(1, k), NONE, 99);
        check.says("BAD: no such WIND, MOVE, NONE where there are some");
        rich("go w", 0, NONE, 2, NONE, (x, w) -> x.go(w, 0));
        rich("go w, NONE", 3, NONE, 4, NONE, (x, w) -> x.go(w, NONE));
        rich("go k", 0, NONE, 2, 1, (x, k) -> x.go(1, k));
        bad("go NONE where there are some", Ways::rich, (x, w) -> x.go(w, NONE), 0, 1, 2);
        bad("go where there are none", Ways::rich, (x, k) -> x.go(3, k), 0, -1, 99, -5, -3);
        bad("go by calm", Ways::rich, (x, k) -> x.go(4, k), 0, -1, 99, -5, -3);
        bad("go beside NONE", Ways::rich, (x, k) -> x.go(1, k), -5, -3, -2, 99);
    }

    // ---- 18 to 21
    private void gales() {
        check.says("ODDS OF A SIDE in n TURNS (0 to 3): 0, 1. BAD.");
        rich("chance side", 0, 2, 1, 0, (x, side) -> x.chance(side, 1, 0));
        rich("chance n, the numerator", 0, 0, 3, 146, (x, n) -> x.chance(0, n, 0));
        rich("chance n, the denominator", 0, 1, 3, 343, (x, n) -> x.chance(0, n, 1));
        rich("chance what", 0, 2, 1, 7, (x, what) -> x.chance(0, 1, what));
        check.says("ODDS of the SIDE whose TURN it is in n TURNS (1 to 3), a WIND blowing now: 0, 1. BAD");
        rich("byWind w", 0, 0, 4, 0, (x, w) -> x.byWind(w, 1, 0));
        rich("byWind n", 1, 1, 3, 1, (x, n) -> x.byWind(1, n, 0));
        rich("byWind what", 0, 12, 1, 49, (x, what) -> x.byWind(4, 3, what));
        check.says("The MOVE for it, the first that is best: its number (0 on, as for move()). BAD; STATE; NONE");
        rich("best w", 0, 0, 4, NONE, (x, w) -> x.best(w, 1));
        rich("best n", 1, 2, 3, 2, (x, n) -> x.best(1, n));
        check.says("The WIND by which byWind() is the greatest, of several the first. BAD; STATE.");
        rich("hope", 1, 1, 3, 1, (x, n) -> x.hope(n));
    }

    // ---- 22
    private void since() {
        check.says("ROWS of n TURNS (0 to 3) from IMAGE k ..: how many (what 0); 10 and i (0 to 2) .. BAD");
        Twins.Way way = x -> {
            Ways.rich(x);
            x.keep(1);
            x.go(4, NONE);
            x.keep(0);
            x.go(4, NONE);
        };
        range("since k", way, 0, 499, 1, NONE, (x, k) -> x.since(k, 1, 10));
        range("since n", way, 0, 1, 3, 0, (x, n) -> x.since(1, n, 0));
        bad("since n", way, (x, n) -> x.since(0, n, 10), -1, 4);
        range("since i", way, 10, 499, 12, NONE, (x, what) -> x.since(1, 2, what));
        check.due("since what 0", Twins.gone(way).since(1, 2, 0), 1);
        bad("since what", way, (x, what) -> x.since(1, 2, what), -1, 1, 2, 9, 13, NONE);
    }

    // ---- 23 to 26
    private void fog() {
        check.says("SEEN: a SQUARE, a SIDE (NONE: nobody): how many are. BAD; FULL.");
        rich("see i", 0, 4, 8, 4, (x, i) -> x.see(i, 0));
        rich("see side", 0, 4, 1, 4, (x, side) -> x.see(5, side));
        check.due("see nobody", Twins.gone(Ways::rich).see(5, NONE), 4);
        bad("see side", Ways::rich, (x, side) -> x.see(5, side), -5, -3, -2);
        check.says("SEEN are the first n alone: how many there were. BAD (n above that, too).");
        rich("forget", 0, 3, 3, 3, (x, n) -> x.forget(n));
        range("forget", Ways::none, 0, 0, 0, 0, (x, n) -> x.forget(n));
        range("forget", Ways::full, 0, 8, 8, 8, (x, n) -> x.forget(n));
        check.says("ROWS of n TURNS (0 to 3) from now on behind which all is as SEEN: how many. BAD.");
        range("fits", Ways::none, 0, 1, 3, 125, (x, n) -> x.fits(n));
        bad("fits", Ways::rich, (x, n) -> x.fits(n), -1, 4);
        check.says("SQUARES on which a PIECE stands behind some of these (bits; 1 << 25: TAKEN). BAD.");
        rich("where p", 0, 1, 3, 4, (x, p) -> x.where(p, 0));
        rich("where n", 0, 1 << 6, 3, 1 | 1 << 3 | 1 << 6 | 1 << 7, (x, n) -> x.where(2, n));
    }

    // ---- 27 to 29
    private void blowing() {
        check.says("TOLD: a WIND more: how many are. BAD; FULL.");
        rich("tell", 0, 3, 4, 3, (x, w) -> x.tell(w));
        check.says("TOLD WINDS are the first n alone: how many there were. BAD (n above that, too).");
        rich("drop", 0, 2, 2, 2, (x, n) -> x.drop(n));
        range("drop", Ways::none, 0, 0, 0, 0, (x, n) -> x.drop(n));
        range("drop", Ways::full, 0, 3, 3, 3, (x, n) -> x.drop(n));
        check.says("(what 0); 10 and i (0 to 2): WIND i then, of several the first by WINDS. BAD");
        rich("blow i", 10, 1, 12, NONE, (x, what) -> x.blow(what));
        check.due("blow what 0", Twins.gone(Ways::rich).blow(0), 1);
        bad("blow what", Ways::rich, (x, what) -> x.blow(what), -1, 1, 2, 9, 13, NONE, FAR, DEEP);
    }

    // ---- 30
    private void seeds() {
        check.says("n TURNS (1 to 60) at most .. TURNS that went (what 0), which SIDE has lost its king then (1; NONE) .. BAD.");
        Twins.Way still = x -> {
            Ways.rich(x);
            for (int w = 0; w < 4; w++) x.weigh(w, 0);
        };
        range("gale n", still, 1, 1, 60, 60, (x, n) -> x.gale(5, n, 0));
        range("gale what", still, 0, 9, 1, NONE, (x, what) -> x.gale(5, 9, what));
        range("gale seed", still, DEEP, 9, FAR, 9, (x, seed) -> x.gale(seed, 9, 0));
    }

    // ---- 31, 32
    private void images() {
        check.says("IMAGE k (0, 1) is PIECES, STEEPLES, ODDS .. whether there was one (1, 0). BAD.");
        rich("keep", 0, 1, 1, 1, (x, k) -> x.keep(k));
        range("keep", Ways::none, 0, 0, 1, 0, (x, k) -> x.keep(k));
        check.says("All is as IMAGE k: TURNS. BAD; STATE: there is none.");
        rich("back", 0, 1, 1, 0, (x, k) -> x.back(k));
    }

    // ---- 33 to 36
    private void sheets() {
        check.says("A SHEET is a new row of CELLS 0: 1. BAD: also n above 40; -14 (SIZE): n below 0.");
        rich("sheet k", 0, 1, 3, 1, (x, k) -> x.sheet(k, 0, 1));
        rich("sheet lane", 0, 1, 2, 1, (x, lane) -> x.sheet(0, lane, 1));
        check.due("sheet n 0", Twins.gone(Ways::rich).sheet(0, 0, 0), 1);
        check.due("sheet n 40", Twins.gone(Ways::rich).sheet(0, 0, 40), 1);
        bad("sheet n", Ways::rich, (x, n) -> x.sheet(0, 0, n), 41, FAR);
        for (int n : new int[] {-1, DEEP}) twins.keeps("sheet n " + n, Ways::rich, x -> x.sheet(0, 0, n), -14);
        check.says("CELL i of a SHEET becomes v (its lowest bits): 1. BAD: k; -10 less the FAULT: NULL, INDEX.");
        rich("lay k", 0, 1, 3, -11, (x, k) -> x.lay(k, 0, 0));
        for (int k = 0; k < 3; k++) {
            int sheet = k;
            int[] sizes = {6, 3, 0};
            int size = sizes[k];
            if (size > 0) check.due("lay i 0 of " + k, Twins.gone(Ways::rich).lay(k, 0, 0), 1);
            if (size > 0) check.due("lay the last of " + k, Twins.gone(Ways::rich).lay(k, size - 1, 0), 1);
            for (int i : new int[] {-1, size, 40, FAR, DEEP}) {
                twins.keeps("lay i " + i + " of " + k, Ways::rich, x -> x.lay(sheet, i, 7), -12);
            }
        }
        for (int i : new int[] {-1, 0, 40}) twins.keeps("lay i of nothing", Ways::rich, x -> x.lay(3, i, 7), -11);
        check.due("lay v", Twins.gone(Ways::rich).lay(0, 0, FAR), 1);
        check.due("lay v", Twins.gone(Ways::rich).lay(0, 0, DEEP), 1);
        check.says("n (0 to 13) TURNS (WIND, MOVE) are read .. BAD: k, lane, n");
        rich("read k", 0, 1, 3, 0, (x, k) -> x.read(k, 0, 0, 1));
        rich("read lane", 0, 1, 2, 0, (x, lane) -> x.read(0, lane, 0, 1));
        range("read n", x -> {
            Ways.rich(x);
            Ways.calms(x, 13);
        }, 0, 0, 13, 13, (x, n) -> x.read(0, 0, 0, n));
    }

    // ---- 37
    private void others() {
        check.says("5 CELLS of SHEET 0 (NONE: nothing), 6 all OIL (of TAKEN PIECES as it was). BAD.");
        rich("count", 0, 4, 6, 20, (x, what) -> x.count(what));
    }

    /** SQUARES of the smallest, the largest and uneven boards, their last one and the one behind it. */
    private void squares() {
        int[][] boards = {{2, 2}, {5, 5}, {2, 5}, {5, 2}, {4, 3}};
        for (int[] board : boards) {
            int last = board[0] * board[1] - 1;
            check.says("by numbers row by row (SQUARES 0 to " + last + ")");
            Twins.Way way = x -> Check.tell(x, "board " + board[0] + " " + board[1] + ";piece king 1 1 9;piece king 0 0 9;");
            range("square", way, 0, 1, last, NONE, (x, i) -> x.square(i));
            range("put", way, 1, 1, last, 1, (x, i) -> x.put(0, i));
            range("steeple", way, 2, 0, last, 0, (x, i) -> x.steeple(i, true));
            range("no steeple", way, 2, 0, last, 0, (x, i) -> x.steeple(i, false));
            range("see", way, 0, 1, last, 1, (x, i) -> x.see(i, NONE));
        }
    }
}
