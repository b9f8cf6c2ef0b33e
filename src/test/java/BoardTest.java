import java.util.ArrayList;
import java.util.List;

/** The edges of boards, and what stands in the way of MOVES. */
public final class BoardTest {
    private static final int BAD = -1, NONE = -4;
    private static final int[] EAST = {0, 1, 0, -1}, SOUTH = {-1, 0, 1, 0};
    private static final String[] KINDS = {"king", "man", "runner", "sparrow"};

    private final Check check = new Check("BoardTest");

    public static void main(String[] args) {
        BoardTest t = new BoardTest();
        t.sizes();
        t.edges();
        t.oneAside();
        t.between();
        t.overAll();
        t.whoHasMoves();
        t.oil();
        t.order();
        t.mostMoves();
        t.put();
        t.steeple();
        t.steepleInTheWay();
        t.weigh();
        t.turn();
        t.check.close();
    }

    private void due(String call, long got, long want) {
        check.due(call, got, want);
    }

    // ---- boards

    private void sizes() {
        check.says("THE BOARD is WIDE by HIGH SQUARES (2 to 5 each; 3 by 3 at first)");
        due("wide at first", new WeatherChess().rule(0), 3);
        due("high at first", new WeatherChess().rule(1), 3);
        for (int wide = 1; wide <= 6; wide++) {
            for (int high = 1; high <= 6; high++) {
                WeatherChess x = new WeatherChess();
                int answer = Check.tell(x, "board " + wide + " " + high + ";");
                boolean isWide = wide >= 2 && wide <= 5;
                boolean isHigh = high >= 2 && high <= 5;
                due("board " + wide + " " + high, answer, !isWide ? -16 : !isHigh ? -18 : 1);
                if (answer != 1) continue;
                int last = wide * high - 1;
                due("wide", x.rule(0), wide);
                due("high", x.rule(1), high);
                due("king 0 on SQUARE 0", x.square(0), 0);
                due("king 1 on the last one", x.square(last), 1);
                due("none behind the last one", x.square(last + 1), BAD);
                for (int i = 1; i < last; i++) due("nobody on " + i, x.square(i), NONE);
            }
        }
    }

    /** Every KIND from every SQUARE of every board by every WIND, against its place east and south. */
    private void edges() {
        check.says("by numbers row by row from the north, each row from the west");
        for (int wide = 2; wide <= 5; wide++) {
            for (int high = 2; high <= 5; high++) {
                for (int kind = 0; kind < 4; kind++) edges(wide, high, kind);
            }
        }
    }

    private void edges(int wide, int high, int kind) {
        for (int i = 0; i < wide * high; i++) {
            WeatherChess x = Check.told("board " + wide + " " + high + ";" + pieces(wide * high, kind, i));
            for (int w = 0; w < 4; w++) {
                List<Integer> due = targets(wide, high, kind, i, w);
                // another KIND is asked with its own king on the board, where it can not go
                if (kind != 0) due.remove((Integer) home(wide * high, i, 0));
                String name = KINDS[kind] + " on " + i + " of " + wide + " by " + high + ", WIND " + w;
                due(name + ", how many", x.moves(w), due.size());
                for (int k = 0; k < due.size(); k++) due(name + ", MOVE " + k, x.move(w, k), due.get(k));
            }
        }
    }

    /** Where the king of a SIDE is while another PIECE is on a SQUARE. */
    private static int home(int squares, int i, int side) {
        int last = squares - 1;
        int first = i == 0 ? 1 : 0;
        int other = i == last ? last - 1 : last;
        return side == 0 ? first : other;
    }

    private static String pieces(int squares, int kind, int i) {
        int other = home(squares, i, 1);
        String oneKing = "piece king 1 " + other + " 0;";
        if (kind == 0) return "piece king 0 " + i + " 1;" + oneKing;
        return "piece " + KINDS[kind] + " 0 " + i + " 1;piece king 0 " + home(squares, i, 0) + " 0;" + oneKing;
    }

    private static List<Integer> targets(int wide, int high, int kind, int i, int w) {
        List<Integer> all = new ArrayList<>();
        int x = i % wide;
        int y = i / wide;
        if (kind == 3) {
            for (int aside = -1; aside <= 1; aside += 2) {
                add(all, wide, high, x + 2 * EAST[w] + aside * Math.abs(SOUTH[w]), y + 2 * SOUTH[w] + aside * Math.abs(EAST[w]));
            }
        }
        for (int d = 1; kind < 3 && d < (kind == 2 ? 5 : 2); d++) {
            int square = add(all, wide, high, x + d * EAST[w], y + d * SOUTH[w]);
            boolean isKing = square == home(wide * high, i, 1) || kind != 0 && square == home(wide * high, i, 0);
            if (isKing) break;
        }
        all.sort(null);
        return all;
    }

    private static int add(List<Integer> all, int wide, int high, int x, int y) {
        if (x < 0 || x >= wide || y < 0 || y >= high) return NONE;
        all.add(y * wide + x);
        return y * wide + x;
    }

    // ---- MOVES

    private void list(String name, WeatherChess x, int w, int... moves) {
        due(name + ", how many", x.moves(w), moves.length);
        for (int k = 0; k < moves.length; k++) due(name + ", MOVE " + k, x.move(w, k), moves[k]);
        due(name + ", behind the last", x.move(w, moves.length), BAD);
    }

    private void oneAside() {
        check.says("sparrow: two on as it blows and one aside, whatever is between");
        WeatherChess x = Check.told("board 5 5;piece sparrow 0 12 1;piece king 0 0 0;piece king 1 24 0;");
        list("north", x, 0, 1, 3);
        list("east", x, 1, 9, 19);
        list("south", x, 2, 21, 23);
        list("west", x, 3, 5, 15);
        for (int i : new int[] {6, 7, 8, 11, 13, 16, 17, 18}) x.steeple(i, true);
        list("north, all around closed", x, 0, 1, 3);
        list("east, all around closed", x, 1, 9, 19);
        list("south, all around closed", x, 2, 21, 23);
        list("west, all around closed", x, 3, 5, 15);
        x.put(1, 1);
        x.put(2, 3);
        list("its own king there, the other one's too", x, 0, 3);
        x.steeple(5, true);
        list("a STEEPLE there", x, 3, 15);
        for (int i : new int[] {6, 7, 8}) x.steeple(i, false);
        x.put(1, 7);
        x.put(2, 6);
        list("PIECES between", x, 0, 1, 3);
    }

    private void between() {
        check.says("runner: any one as it blows, all between without STEEPLE, without PIECE");
        WeatherChess x = Check.told("board 5 5;piece runner 0 10 1;piece king 0 0 0;piece king 1 24 0;piece man 0 1 0;piece man 1 23 0;");
        list("nothing between", x, 1, 11, 12, 13, 14);
        x.steeple(14, true);
        list("a STEEPLE at the end", x, 1, 11, 12, 13);
        x.steeple(11, true);
        list("a STEEPLE next to it", x, 1);
        x.steeple(11, false);
        x.steeple(14, false);
        x.put(3, 13);
        list("its own man", x, 1, 11, 12);
        x.put(4, 12);
        list("the other one's man", x, 1, 11, 12);
        x.put(3, 11);
        list("its own man next to it", x, 1);
        x.put(3, 1);
        x.put(4, 11);
        list("the other one's man next to it", x, 1, 11);
        x.put(4, 14);
        list("the other one's man at the end", x, 1, 11, 12, 13, 14);
        x.put(0, 14 - 1);
        list("one step ahead of it", x, 1, 14);
        list("to the west, by numbers", x, 3, 10, 11, 12);
        x.put(0, 22);
        list("to the north, by numbers", x, 0, 2, 7, 12, 17);
        x.put(4, 12);
        list("to the north, one there", x, 0, 12, 17);
        list("to the south, at the edge", x, 2);
    }

    private void overAll() {
        check.says("(When it is OVER there are no MOVES.)");
        WeatherChess x = Twins.gone(Ways::over);
        for (int side = 0; side < 2; side++) {
            x.turn(side);
            for (int w = 0; w < 5; w++) list("OVER, SIDE " + side, x, w);
        }
        x.put(1, 0);
        list("no more OVER", x, 3, 204);
    }

    private void whoHasMoves() {
        check.says("MOVES by a WIND (no calm), of the SIDE whose TURN it is: of a PIECE that is not TAKEN");
        WeatherChess x = Check.told("piece king 0 0 9;piece king 1 4 9;piece man 0 3 9;piece man 1 8 9;");
        list("SIDE 0 east", x, 1, 1, 204);
        list("calm", x, 4);
        x.turn(1);
        list("SIDE 1 west", x, 3, 103, 307);
        list("SIDE 1 north", x, 0, 101, 305);
        list("calm", x, 4);
        due("the man is TAKEN", x.go(3, 0), 2);
        list("SIDE 0 without its man", x, 1, 1);
        list("SIDE 0 without its man", x, 0);
        x.put(2, 6);
        list("its man is there again", x, 1, 1, 207);
        check.says("to a SQUARE without STEEPLE and without PIECE of that SIDE");
        x.put(2, 1);
        list("the man there", x, 1, 202);
        x.put(2, 2);
        x.steeple(1, true);
        list("a STEEPLE there", x, 1);
        x.steeple(1, false);
        x.put(3, 1);
        list("a PIECE of the other SIDE there", x, 1, 1);
    }

    private void oil() {
        check.says("with OIL 1 or more");
        for (int kind = 0; kind < 4; kind++) {
            WeatherChess x = Check.told("board 5 5;piece " + KINDS[kind] + " " + (kind == 0 ? 1 : 0) + " 12 0;piece king 0 0 0;"
                + (kind == 0 ? "turn 1;" : "piece king 1 24 0;"));
            for (int w = 0; w < 4; w++) due(KINDS[kind] + " without OIL by " + w, x.moves(w), 0);
            x.oil(0, 1);
            for (int w = 0; w < 4; w++) due(KINDS[kind] + " with OIL 1 by " + w, x.moves(w), kind < 2 ? 1 : 2);
            x.oil(0, 9);
            for (int w = 0; w < 4; w++) due(KINDS[kind] + " with OIL 9 by " + w, x.moves(w), kind < 2 ? 1 : 2);
        }
    }

    private void order() {
        check.says("By PIECES, then by SQUARES.");
        WeatherChess x = Check.told("board 5 5;piece runner 0 22 1;piece king 0 24 1;piece sparrow 0 21 1;piece king 1 0 1;piece man 0 15 1;");
        list("north", x, 0, 2, 7, 12, 17, 119, 210, 212, 410);
    }

    private void mostMoves() {
        check.says("How many MOVES there are by a WIND. (as many as six PIECES can have)");
        WeatherChess x = Check.told("board 5 5;piece runner 0 0 9;piece runner 0 5 9;piece runner 0 10 9;piece runner 0 15 9;"
            + "piece king 0 20 9;piece king 1 24 9;");
        due("east", x.moves(1), 17);
        for (int p = 0; p < 4; p++) for (int i = 0; i < 4; i++) due("MOVE", x.move(1, 4 * p + i), 101 * p + 4 * p + i + 1);
        due("the last MOVE", x.move(1, 16), 421);
        due("behind the last MOVE", x.move(1, 17), BAD);
        due("no such MOVE", x.go(1, 17), BAD);
        due("the last MOVE goes", x.go(1, 16), NONE);
        due("it went", x.square(21), 4);
    }

    // ---- what is changed

    private void put() {
        check.says("A PIECE is on a SQUARE: where it was (NONE: it was TAKEN).");
        WeatherChess x = Twins.gone(Ways::rich);
        due("where it is", x.put(0, 0), 0);
        due("on another one", x.put(0, 7), 0);
        due("it is there", x.square(7), 0);
        due("it is gone", x.square(0), NONE);
        due("back", x.put(0, 0), 7);
        due("TURN stays", x.rule(4), 0);
        due("TURNS stay", x.rule(5), 4);
        due("OIL stays", x.piece(0, 3), 9);
        x = Twins.gone(Ways::over);
        due("one that was TAKEN", x.put(1, 3), NONE);
        due("its OIL is as it was", x.piece(1, 3), 9);
        due("it was there", x.put(1, 4), 3);
        due("it is OVER no more", x.rule(6), NONE);
    }

    private void steeple() {
        check.says("A STEEPLE on a SQUARE, or none: whether there was.");
        WeatherChess x = Check.told("board 5 5;");
        int bits = 0;
        for (int i = 1; i < 24; i++) {
            bits |= 1 << i;
            due("new on " + i, x.steeple(i, true), 0);
            due("bits", x.rule(3), bits);
            due("again", x.steeple(i, true), 1);
        }
        due("all but the kings' own", x.rule(3), (1 << 24) - 2);
        for (int i = 1; i < 24; i += 2) {
            bits &= ~(1 << i);
            due("none on " + i, x.steeple(i, false), 1);
            due("bits", x.rule(3), bits);
            due("none again", x.steeple(i, false), 0);
        }
        x.put(0, 1);
        due("where a PIECE was", x.steeple(0, true), 0);
        x.put(1, 3);
        due("on the last one", x.steeple(24, true), 0);
        due("bits", x.rule(3), bits | 1 | 1 << 24);
        check.says("BAD: also a PIECE there.");
        x = Twins.gone(Ways::over);
        due("where one is that was TAKEN", x.steeple(1, true), BAD);
        x.put(0, 0);
        due("where one was that is TAKEN", x.steeple(1, true), 0);
        due("it can not be put there now", x.put(1, 1), BAD);
    }

    private void steepleInTheWay() {
        check.says("STEEPLES close some SQUARES");
        WeatherChess x = new WeatherChess();
        x.steeple(1, true);
        list("closed", x, 1);
        list("open", x, 2, 3);
        x.steeple(1, false);
        x.steeple(3, true);
        list("open again", x, 1, 1);
        list("closed now", x, 2);
    }

    private void weigh() {
        check.says("ODDS of a WIND become v: what they were. BAD: also if all would be 0.");
        WeatherChess x = new WeatherChess();
        for (int w = 0; w < 5; w++) {
            due("9", x.weigh(w, 9), 1);
            due("now", x.odd(w), 9);
        }
        for (int w = 0; w < 4; w++) due("0", x.weigh(w, 0), 9);
        due("the last one", x.weigh(4, 0), BAD);
        due("it stays", x.odd(4), 9);
        due("1 is enough", x.weigh(4, 1), 9);
        due("the last one", x.weigh(4, 0), BAD);
        due("another one", x.weigh(2, 1), 0);
        due("now it may be 0", x.weigh(4, 0), 1);
        due("0 again", x.weigh(4, 0), 0);
        due("this one may not", x.weigh(2, 0), BAD);
    }

    private void turn() {
        check.says("TURN is a SIDE's: whose it was.");
        WeatherChess x = new WeatherChess();
        due("0 again", x.turn(0), 0);
        due("1", x.turn(1), 0);
        due("1 again", x.turn(1), 1);
        due("now", x.rule(4), 1);
        due("TURNS stay", x.rule(5), 0);
        list("SIDE 1", x, 0, 105);
        due("0", x.turn(0), 1);
        list("SIDE 0", x, 0);
        due("when it is OVER", Twins.gone(Ways::over).turn(0), 1);
    }
}
