/** TURNS, ODDS, ROWS and gales at the ends of what there is: OIL that runs out, the last TURN, n from none to three. */
public final class TurnsTest {
    private static final int BAD = -1, STATE = -2, FULL = -3, NONE = -4;
    private static final int FAR = Integer.MAX_VALUE, DEEP = Integer.MIN_VALUE;

    private final Check check = new Check("TurnsTest");

    public static void main(String[] args) {
        TurnsTest t = new TurnsTest();
        t.noneOnlyWhereNone();
        t.takes();
        t.oilLess();
        t.oilAtNone();
        t.oilOfTaken();
        t.turnAndTurns();
        t.overByKing();
        t.thousandth();
        t.fractions();
        t.chanceByTurns();
        t.chanceByOdds();
        t.chanceOver();
        t.bothAtBest();
        t.byWind();
        t.best();
        t.sinceByTurns();
        t.sinceAsNow();
        t.sinceTaken();
        t.sinceOver();
        t.fitsByTurns();
        t.fitsAsSeen();
        t.where();
        t.blowByTurns();
        t.galeWinds();
        t.galeAsGo();
        t.galeEnds();
        t.check.close();
    }

    private void due(String call, long got, long want) {
        check.due(call, got, want);
    }

    private void oils(String name, WeatherChess x, int... oils) {
        for (int p = 0; p < oils.length; p++) due(name + ", OIL of " + p, x.piece(p, 3), oils[p]);
    }

    // ---- 17

    private void noneOnlyWhereNone() {
        check.says("A TURN by a WIND: one of the MOVES; none (NONE) only where there are none.");
        for (int w = 0; w < 5; w++) {
            WeatherChess x = new WeatherChess();
            boolean any = w == 1 || w == 2;
            due("NONE by " + w, x.go(w, NONE), any ? BAD : NONE);
            due("TURNS by " + w, x.rule(5), any ? 0 : 1);
            x = new WeatherChess();
            due("MOVE 0 by " + w, x.go(w, 0), any ? NONE : BAD);
            due("TURNS by " + w, x.rule(5), any ? 1 : 0);
        }
        WeatherChess x = Check.told("piece king 0 0 0;piece king 1 8 9;");
        due("no MOVES without OIL", x.go(1, 0), BAD);
        due("NONE without OIL", x.go(1, NONE), NONE);
        x = new WeatherChess();
        x.steeple(1, true);
        due("no MOVES onto a STEEPLE", x.go(1, 0), BAD);
        due("NONE ahead of a STEEPLE", x.go(1, NONE), NONE);
    }

    private void takes() {
        check.says("the PIECE that is TAKEN (NONE: none).");
        String[] withMan = {"man 1 12", "man 0 11", "king 0 20", "king 1 24", "man 1 22", "man 0 0"};
        String[] withKing = {"king 1 12", "man 0 11", "king 0 20", "man 1 24", "man 1 22", "man 0 0"};
        for (int p = 0; p < 6; p++) {
            takes(withMan, p, NONE);
            takes(withKing, p, 1);
        }
        check.says("A PIECE of the other SIDE there is TAKEN.");
        WeatherChess x = new WeatherChess();
        due("nobody there", x.go(1, 0), NONE);
        due("both stand", x.count(0), 2);
    }

    /** PIECE p is TAKEN by the next one, by an east wind. */
    private void takes(String[] pieces, int p, int lost) {
        StringBuilder text = new StringBuilder("board 5 5;");
        for (int i = 0; i < 6; i++) text.append("piece ").append(pieces[(i - p + 6) % 6]).append(" 5;");
        WeatherChess x = Check.told(text.toString());
        int taker = (p + 1) % 6;
        int k = 0;
        while (k < x.moves(1) && x.move(1, k) != 100 * taker + 12) k++;
        due("PIECE " + p + " is TAKEN", x.go(1, k), p);
        due("it is nowhere", x.piece(p, 2), NONE);
        due("who took it is there", x.square(12), taker);
        due("who took it is not where it was", x.square(11), NONE);
        due("five are left", x.count(0), 5);
        due("six PIECES", x.rule(2), 6);
        due("OVER by a king alone", x.rule(6), lost);
    }

    private void oilLess() {
        check.says("Then, but by calm, each PIECE of that SIDE that is not TAKEN and did not move has 1 OIL less");
        String text = "board 4 4;piece king 0 0 3;piece man 0 5 4;piece man 0 9 5;piece king 1 15 6;piece man 1 11 7;";
        WeatherChess x = Check.told(text);
        x.go(1, 1);
        oils("east, a man moves", x, 2, 4, 4, 6, 7);
        x.go(0, 0);
        oils("north, the other SIDE", x, 2, 4, 4, 5, 7);
        x.go(4, NONE);
        oils("calm", x, 2, 4, 4, 5, 7);
        x.go(1, NONE);
        oils("no MOVES by a WIND", x, 2, 4, 4, 4, 6);
        for (int w = 0; w < 4; w++) {
            x = Check.told("piece king 0 4 9;piece man 0 8 5;piece king 1 0 9;piece man 1 2 5;");
            x.go(w, 0);
            oils("the king moves by " + w, x, 9, 4, 9, 5);
        }
    }

    private void oilAtNone() {
        check.says("has 1 OIL less (0 at least)");
        WeatherChess x = Check.told("piece king 0 0 9;piece man 0 6 2;piece man 0 7 1;piece man 0 8 0;piece king 1 2 0;");
        x.go(1, 0);
        oils("once", x, 9, 1, 0, 0, 0);
        x.go(0, NONE);
        oils("the other SIDE has none", x, 9, 1, 0, 0, 0);
        x.go(2, 0);
        oils("twice", x, 9, 0, 0, 0, 0);
        x.go(2, NONE);
        x.go(0, 0);
        oils("three times", x, 9, 0, 0, 0, 0);
        due("no OIL, no MOVES", x.moves(0), 0);
        x.turn(0);
        due("the king alone has OIL: north", x.moves(0), 0);
        due("the king alone has OIL: east", x.moves(1), 1);
        due("the king alone has OIL: west", x.moves(3), 1);
    }

    private void oilOfTaken() {
        check.says("6 all OIL (of TAKEN PIECES as it was)");
        WeatherChess x = Check.told("piece king 0 0 9;piece man 0 3 6;piece king 1 5 9;piece man 1 4 7;");
        due("the man takes a man", x.go(1, 1), 3);
        oils("now", x, 8, 6, 9, 7);
        due("the king takes it", x.go(3, 0), 1);
        oils("the one that is TAKEN keeps its own", x, 8, 6, 9, 7);
        x.go(0, NONE);
        oils("none of its SIDE moves", x, 7, 6, 9, 7);
        x.go(1, 0);
        oils("none that is TAKEN of the other SIDE", x, 7, 6, 9, 7);
        due("all OIL", x.count(6), 29);
        due("OIL of one that is TAKEN", x.oil(1, 0), 6);
        due("all OIL", x.count(6), 23);
        due("they stand", x.count(0), 2);
    }

    private void turnAndTurns() {
        check.says("TURN is the other SIDE's, TURNS are 1 more.");
        WeatherChess x = new WeatherChess();
        for (int i = 0; i < 6; i++) {
            due("TURN", x.rule(4), i % 2);
            due("TURNS", x.rule(5), i);
            due("goes", x.go(i % 3 == 0 ? 4 : 3, i == 1 || i == 5 ? 0 : NONE), NONE);
        }
        x = Twins.gone(Ways::over);
        due("the TURN behind who took the king", x.rule(4), 1);
        due("TURNS", x.rule(5), 2);
    }

    private void overByKing() {
        check.says("It is OVER, when a king is TAKEN: no TURN can be then.");
        for (int side = 0; side < 2; side++) {
            WeatherChess x = Check.told("piece king 0 0 9;piece king 1 1 9;piece man 0 8 9;piece man 1 7 9;turn " + side + ";");
            due("SIDE " + side + " takes", x.go(side == 0 ? 1 : 3, 0), 1 - side);
            due("who has lost", x.rule(6), 1 - side);
            for (int w = 0; w < 5; w++) {
                due("no MOVES", x.moves(w), 0);
                due("no TURN", x.go(w, NONE), STATE);
                due("no MOVE", x.go(w, 0), BAD);
            }
            due("TURNS", x.rule(5), 1);
            due("the king comes back", x.put(1 - side, 4), NONE);
            due("a TURN can be", x.go(4, NONE), NONE);
        }
    }

    private void thousandth() {
        check.says("FULL: it would be the 1000th.");
        WeatherChess x = Twins.gone(Ways::lastButOne);
        x.keep(0);
        due("the 999th", x.go(4, NONE), NONE);
        due("the 1000th", x.go(4, NONE), FULL);
        due("the 1000th by a MOVE", x.go(3, 0), FULL);
        due("TURNS", x.rule(5), 999);
        due("back", x.back(0), 998);
        due("the 999th again", x.go(1, 0), 1);
        x = Twins.gone(Ways::last);
        for (int n = 1; n < 4; n++) {
            due("ODDS as it would be", x.byWind(1, n, 0), 1);
            due("ROWS as they would be", x.fits(n) > 4 ? 1 : 0, 1);
        }
        due("a gale as it would be", x.gale(1, 1, 0), 1);
        x.tell(1);
        due("blown as it would be", x.blow(0), 0);
    }

    // ---- 18

    private void part(String name, WeatherChess x, int side, int n, long top, long bottom) {
        due(name + ", SIDE " + side + " in " + n, x.chance(side, n, 0), top);
        due(name + ", SIDE " + side + " in " + n + ", the denominator", x.chance(side, n, 1), bottom);
    }

    private void fractions() {
        check.says("Fractions are in lowest terms, told as 0 the numerator, 1 the denominator, which is above 0 (0 is 0 by 1).");
        WeatherChess x = Check.told("board 2 2;piece king 0 0 9;piece king 1 1 9;odds 9 9 9 9 9;");
        part("9 of 45", x, 0, 1, 1, 5);
        part("never", x, 1, 1, 0, 1);
        x.weigh(1, 1);
        part("1 of 37", x, 0, 1, 1, 37);
        x.weigh(1, 0);
        part("0 of 36", x, 0, 1, 0, 1);
        x.weigh(0, 4);
        x.weigh(1, 6);
        x.weigh(2, 0);
        x.weigh(3, 0);
        x.weigh(4, 8);
        part("6 of 18", x, 0, 1, 1, 3);
        due("by a WIND", x.byWind(1, 1, 0), 1);
        due("by a WIND, the denominator", x.byWind(1, 1, 1), 1);
        due("by another WIND", x.byWind(4, 1, 0), 0);
        due("by another WIND, the denominator", x.byWind(4, 1, 1), 1);
        x.weigh(0, 0);
        x.weigh(4, 0);
        for (int n = 1; n < 4; n++) part("sure", x, 0, n, 1, 1);
        for (int n = 0; n < 4; n++) part("never", x, 1, n, 0, 1);
        // by east alone, of 45 each time: the second TURN of SIDE 0, and the first one that it does not need
        x = Check.told("board 2 2;piece king 0 0 9;piece king 1 3 0;odds 9 9 9 9 9;");
        part("the largest odds", x, 0, 3, 2, 25);
        x.weigh(0, 8);
        part("2 times 9 times 9 of 44 times 44", x, 0, 3, 81, 968);
    }

    private void chanceByTurns() {
        check.says("how likely it takes the other king in these, n TURNS (0 to 3)");
        WeatherChess x = Check.told("board 2 2;piece king 0 0 9;piece king 1 3 0;odds 0 1 1 0 0;");
        part("none", x, 0, 0, 0, 1);
        part("it comes next to it", x, 0, 1, 0, 1);
        part("the other one has no OIL", x, 0, 2, 0, 1);
        part("it takes it", x, 0, 3, 1, 2);
        for (int n = 0; n < 4; n++) part("without OIL", x, 1, n, 0, 1);
        x.turn(1);
        part("the other one is to move", x, 0, 2, 0, 1);
        part("the other one is to move", x, 0, 3, 0, 1);
        x.put(0, 1);
        part("next to it, the other one is to move", x, 0, 1, 0, 1);
        part("next to it, then its own TURN", x, 0, 2, 1, 2);
        part("a TURN more does not help", x, 0, 3, 1, 2);
        x.turn(0);
        part("at once", x, 0, 1, 1, 2);
        part("at once", x, 0, 2, 1, 2);
        part("at once, or behind it", x, 0, 3, 3, 4);
    }

    private void chanceByOdds() {
        check.says("BY GALES: in each TURN there is a WIND by ODDS, by itself.");
        for (int w = 0; w < 5; w++) {
            for (int v = 0; v <= 9; v += 3) {
                WeatherChess x = Check.told("piece king 0 4 9;piece king 1 1 9;odds 0 0 0 0 1;");
                int[] squares = {1, 5, 7, 3, 0};
                x.put(1, squares[w]);
                x.weigh(w, v);
                int all = w == 4 ? v : v + 1;
                if (all == 0) due("all 0 is refused", x.odd(4), 1);
                boolean none = w == 4 || v == 0;
                part("ODDS " + v + " of WIND " + w, x, 0, 1, none ? 0 : v, none ? 1 : all);
            }
        }
    }

    private void chanceOver() {
        check.says("(It is OVER: 1 for who took the king, 0 for the other one.)");
        for (int side = 0; side < 2; side++) {
            WeatherChess x = Check.told("piece king 0 0 9;piece king 1 1 9;turn " + side + ";odds 3 1 4 1 5;");
            x.go(side == 0 ? 1 : 3, 0);
            for (int turn = 0; turn < 2; turn++) {
                x.turn(turn);
                for (int n = 0; n < 4; n++) {
                    part("who took", x, side, n, 1, 1);
                    part("who lost", x, 1 - side, n, 0, 1);
                }
            }
        }
    }

    private void bothAtBest() {
        check.says("it choosing MOVES so that it is the greatest, the other one so that it is the least (each when it knows the WIND).");
        WeatherChess x = Check.told("board 4 4;piece man 1 10 9;piece king 1 1 9;piece king 0 15 9;piece runner 0 13 9;"
            + "odds 1 1 0 0 0;turn 1;");
        due("by east the man, ahead of its king", x.move(1, 0), 11);
        due("or the king, out of the runner's way", x.move(1, 1), 102);
        part("the least: the king moves by east", x, 0, 2, 1, 4);
        x.oil(1, 0);
        part("the king has no OIL", x, 0, 2, 1, 2);
        x = greatest();
        part("the greatest: the runner moves, not the first", x, 0, 3, 1, 2);
        part("the greatest for the other SIDE", x, 1, 3, 0, 1);
    }

    /** SIDE 0 has its king in one of three TURNS only if its runner goes by its second MOVE now. */
    private static WeatherChess greatest() {
        return Check.told("board 4 4;piece king 0 15 9;piece runner 0 12 9;piece king 1 2 0;odds 1 1 0 0 0;");
    }

    // ---- 19, 20

    private void byWind() {
        check.says("ODDS of the SIDE whose TURN it is in n TURNS (1 to 3), a WIND blowing now: 0, 1.");
        WeatherChess x = Check.told("board 2 2;piece king 0 0 9;piece king 1 3 0;odds 0 1 1 0 0;");
        int[][] tops = {{0, 0, 0}, {0, 0, 1}, {0, 0, 1}, {0, 0, 0}, {0, 0, 0}};
        for (int w = 0; w < 5; w++) {
            for (int n = 1; n < 4; n++) {
                due("WIND " + w + " in " + n, x.byWind(w, n, 0), tops[w][n - 1]);
                due("WIND " + w + " in " + n + ", the denominator", x.byWind(w, n, 1), tops[w][n - 1] == 0 ? 1 : 2);
            }
        }
        x.turn(1);
        for (int w = 0; w < 5; w++) due("SIDE 1 without OIL", x.byWind(w, 3, 0), 0);
        x.oil(1, 9);
        x.put(0, 2);
        due("SIDE 1 takes by west, which has no ODDS", x.byWind(3, 1, 0), 1);
        due("not by north", x.byWind(0, 1, 0), 0);
    }

    private void best() {
        check.says("NONE: there are none.");
        WeatherChess x = new WeatherChess();
        for (int n = 1; n < 4; n++) {
            int[] due = {NONE, 0, 0, NONE, NONE};
            for (int w = 0; w < 5; w++) due("WIND " + w + " in " + n, x.best(w, n), due[w]);
        }
        x.oil(0, 0);
        for (int w = 0; w < 5; w++) due("without OIL", x.best(w, 3), NONE);
        check.says("The MOVE for it, the first that is best: its number");
        x = greatest();
        for (int w = 0; w < 2; w++) {
            for (int n = 1; n < 3; n++) due("in " + n + " none is better, WIND " + w, x.best(w, n), 0);
            due("in three it comes where it can take, WIND " + w, x.best(w, 3), 1);
            due("ODDS of it", x.byWind(w, 3, 0), 1);
            due("ODDS of it, the denominator", x.byWind(w, 3, 1), 2);
        }
    }

    // ---- 22

    private void rows(String name, WeatherChess x, int n, int count, int... turns) {
        due(name + ", in " + n, x.since(0, n, 0), count);
        for (int i = 0; i < 3; i++) {
            due(name + ", TURN " + i + " of " + n, x.since(0, n, 10 + i), i < turns.length ? turns[i] : NONE);
        }
    }

    private void sinceByTurns() {
        check.says("ROWS of n TURNS (0 to 3) from IMAGE k .. to where all PIECES stand now: how many (what 0)");
        WeatherChess x = new WeatherChess();
        x.keep(0);
        rows("as it is", x, 0, 1);
        rows("as it is", x, 1, 0);
        rows("as it is", x, 2, 1, 499, 499);
        rows("as it is", x, 3, 0);
        x.go(2, 0);
        rows("one TURN", x, 0, 0);
        rows("one TURN", x, 1, 1, 200);
        rows("one TURN", x, 2, 0);
        rows("one TURN", x, 3, 2, 200, 499, 499);
        x.go(3, 0);
        rows("two TURNS", x, 2, 1, 200, 300);
        rows("two TURNS", x, 1, 0);
        x.go(2, 0);
        rows("three TURNS", x, 3, 1, 200, 300, 200);
        rows("three TURNS", x, 1, 0);
        x.go(4, NONE);
        for (int n = 0; n < 4; n++) rows("four TURNS", x, n, 0);
    }

    private void sinceAsNow() {
        check.says("(its PIECES, TURN; all else as now) .. with OIL and TURN as now");
        WeatherChess x = new WeatherChess();
        x.keep(0);
        x.go(1, 0);
        x.turn(0);
        rows("TURN is not as now", x, 1, 0);
        rows("TURN is as now by a TURN more", x, 2, 1, 100, 499);
        x.turn(1);
        for (int p = 0; p < 2; p++) {
            x.oil(p, 8);
            rows("OIL is not as now", x, 1, 0);
            x.oil(p, 9);
        }
        rows("as now", x, 1, 1, 100);
        for (int w = 0; w < 4; w++) x.weigh(w, 0);
        rows("by WINDS without ODDS", x, 1, 1, 100);
        x.steeple(0, true);
        rows("a STEEPLE where it was", x, 1, 1, 100);
        x.put(0, 2);
        x.steeple(1, true);
        rows("a STEEPLE on its way, as now", x, 3, 0);
        x.steeple(1, false);
        rows("none on its way, as now", x, 3, 1, 100, 499, 100);
        x = new WeatherChess();
        x.steeple(1, true);
        x.keep(0);
        x.steeple(1, false);
        x.put(0, 1);
        x.turn(1);
        rows("the IMAGE's STEEPLE is none now", x, 1, 1, 100);
        x.keep(1);
        due("IMAGE 1 is another one", x.since(1, 0, 0), 1);
        due("IMAGE 0 is as it was", x.since(0, 0, 0), 0);
        due("nothing is changed", x.rule(5), 0);
    }

    private void sinceTaken() {
        check.says("to where all PIECES stand now (a PIECE is on a SQUARE, or TAKEN)");
        WeatherChess x = Check.told("piece king 0 0 9;piece king 1 8 9;piece man 0 3 9;piece man 1 4 9;");
        x.keep(0);
        due("the man is TAKEN", x.go(1, 1), 3);
        x.keep(1);
        rows("it is TAKEN", x, 1, 1, 101);
        x.oil(3, 8);
        rows("OIL of the one that is TAKEN is not as now", x, 1, 0);
        x.oil(3, 9);
        x.put(2, 3);
        x.oil(0, 9);
        x.turn(0);
        rows("all but the one that is TAKEN stand as they did", x, 0, 0);
        rows("all but the one that is TAKEN stand as they did", x, 2, 0);
        x.put(3, 4);
        rows("all stand as they did", x, 0, 1);
        rows("all stand as they did", x, 2, 1, 499, 499);
        x.put(2, 5);
        x.put(3, 3);
        x.put(2, 4);
        x.oil(0, 8);
        x.turn(1);
        due("one that is TAKEN in the IMAGE stands now", x.since(1, 0, 0), 0);
        due("nor is it so by two TURNS", x.since(1, 2, 0), 0);
    }

    private void sinceOver() {
        check.says("(none behind the one by which it is OVER)");
        WeatherChess x = Check.told("piece king 0 0 9;piece king 1 1 9;piece man 0 6 9;");
        x.keep(0);
        due("takes", x.go(1, 0), 1);
        due("the man's OIL", x.piece(2, 3), 8);
        rows("OVER by the first", x, 1, 1, 100);
        rows("none behind it", x, 2, 0);
        x.keep(0);
        rows("an IMAGE that is OVER", x, 0, 1);
        for (int n = 1; n < 4; n++) rows("an IMAGE that is OVER", x, n, 0);
        x.turn(0);
        rows("TURN as now", x, 0, 0);
    }

    // ---- 25, 26

    private void fitsByTurns() {
        check.says("ROWS of n TURNS (0 to 3) from now on behind which all is as SEEN: how many.");
        WeatherChess x = new WeatherChess();
        int[] all = {1, 5, 25, 125};
        for (int n = 0; n < 4; n++) due("nothing SEEN, in " + n, x.fits(n), all[n]);
        x.see(0, 0);
        int[] stays = {1, 3, 15, 55};
        for (int n = 0; n < 4; n++) due("SIDE 0 on 0, in " + n, x.fits(n), stays[n]);
        x = Twins.gone(Ways::over);
        int[] over = {0, 0, 0, 0};
        for (int n = 0; n < 4; n++) due("OVER, SIDE 1 is not on 1, in " + n, x.fits(n), over[n]);
        x.forget(0);
        over[0] = 1;
        for (int n = 0; n < 4; n++) due("OVER, nothing SEEN, in " + n, x.fits(n), over[n]);
        x = Check.told("board 2 2;piece king 0 0 9;piece king 1 1 9;");
        due("one is OVER", x.fits(1), 5);
        due("none behind it", x.fits(2), 20);
        x.see(1, 0);
        due("SIDE 0 took it", x.fits(1), 1);
        due("nothing is changed", x.rule(5), 0);
    }

    private void fitsAsSeen() {
        check.says("SEEN (8): a SQUARE, who stands there behind so many TURNS as are asked: SIDE 0, 1, or NONE.");
        int[] squares = {0, 8, 4};
        int[][] sides = {{0, 1, NONE}, {1, 0, NONE}, {NONE, 0, 1}};
        for (int i = 0; i < 3; i++) {
            for (int j = 0; j < 3; j++) {
                WeatherChess x = new WeatherChess();
                x.see(squares[i], sides[i][j]);
                due("who is on " + squares[i] + ": " + sides[i][j], x.fits(0), j == 0 ? 1 : 0);
            }
        }
        WeatherChess x = new WeatherChess();
        for (int i = 0; i < 7; i++) x.see(0, 0);
        due("seven times the same", x.fits(0), 1);
        x.see(0, 1);
        due("the eighth is another one", x.fits(0), 0);
        x.forget(7);
        due("it is forgotten", x.fits(0), 1);
        x.see(8, NONE);
        due("nobody on the last one", x.fits(0), 0);
        x = new WeatherChess();
        x.steeple(4, true);
        x.see(4, NONE);
        due("nobody on a STEEPLE", x.fits(0), 1);
        x.forget(0);
        x.see(0, NONE);
        due("somebody is there", x.fits(0), 0);
        x.forget(0);
        due("that is forgotten", x.fits(0), 1);
        x.see(0, NONE);
        x.see(1, 0);
        due("in none", x.fits(0), 0);
        due("one TURN makes both so", x.fits(1), 1);
        eachSeen();
    }

    /** Of eight SEEN each one alone, changed to another SIDE, makes that it is not so. */
    private void eachSeen() {
        check.says("behind which all is as SEEN");
        int[] squares = {0, 1, 2, 3, 4, 5, 6, 7};
        int[] sides = {0, 1, NONE, 0, NONE, 1, NONE, 0};
        for (int other = 0; other <= 8; other++) {
            WeatherChess x = Check.told("piece king 0 0 9;piece king 1 1 9;piece man 0 3 9;piece man 1 5 9;piece man 0 7 9;");
            for (int i = 0; i < 8; i++) {
                boolean isOther = i == other;
                x.see(squares[i], !isOther ? sides[i] : sides[i] == 0 ? NONE : 0);
            }
            due("all but " + other, x.fits(0), other == 8 ? 1 : 0);
            due("all but " + other + ", where", x.where(1, 0), other == 8 ? 2 : 0);
        }
    }

    private void where() {
        check.says("SQUARES on which a PIECE stands behind some of these (bits; 1 << 25: TAKEN).");
        WeatherChess x = Check.told("board 5 5;");
        due("the first", x.where(0, 0), 1);
        due("the last", x.where(1, 0), 1 << 24);
        due("in one", x.where(0, 1), 1 | 1 << 1 | 1 << 5);
        due("in one, the other one", x.where(1, 1), 1 << 24);
        due("in two, the other one", x.where(1, 2), 1 << 24 | 1 << 23 | 1 << 19);
        due("in three", x.where(0, 3), 1 | 1 << 1 | 1 << 2 | 1 << 5 | 1 << 6 | 1 << 10);
        x.see(12, 0);
        for (int n = 0; n < 4; n++) due("behind none", x.where(0, n), 0);
        x = Twins.gone(Ways::over);
        x.forget(0);
        due("TAKEN", x.where(1, 0), 1 << 25);
        due("OVER, in none", x.where(0, 0), 1 << 1);
        for (int n = 1; n < 4; n++) due("OVER, behind none", x.where(1, n), 0);
        x = Check.told("board 2 2;piece king 0 0 9;piece king 1 1 9;");
        due("it may be TAKEN", x.where(1, 1), 1 << 1 | 1 << 25);
        due("it can not be", x.where(0, 1), 1 | 1 << 1 | 1 << 2);
    }

    // ---- 29

    private void blown(String name, WeatherChess x, int fewest, int... winds) {
        due(name, x.blow(0), fewest);
        for (int i = 0; i < 3; i++) due(name + ", WIND " + i, x.blow(10 + i), i < winds.length ? winds[i] : NONE);
    }

    private void blowByTurns() {
        check.says("so that by some ROW by these the SIDE whose TURN it is now takes the king");
        WeatherChess x = Check.told("board 2 2;piece king 0 0 9;piece king 1 3 9;");
        blown("nothing TOLD", x, NONE);
        x.tell(4);
        blown("one TOLD", x, NONE);
        x.tell(4);
        blown("two TOLD", x, NONE);
        x.tell(4);
        blown("three TOLD", x, 2, 1, 4, 2);
        x.drop(2);
        blown("two TOLD again", x, NONE);
        x.tell(2);
        blown("the third as it must be", x, 1, 1, 4, 2);
        x.drop(0);
        x.tell(1);
        x.tell(4);
        x.tell(2);
        blown("all as they must be", x, 0, 1, 4, 2);
        x.put(0, 1);
        blown("none by the first, then at last", x, 0, 1, 4, 2);
        x.drop(2);
        blown("TOLD behind the king stay", x, 1, 2, 4);
        x.drop(1);
        blown("one TOLD", x, 1, 2);
        x.turn(1);
        blown("of the other SIDE", x, 1, 0);
        x.oil(1, 0);
        blown("without OIL", x, NONE);
        x.tell(3);
        x.tell(2);
        blown("the other one could, but it is not its own", x, NONE);
        x.oil(1, 9);
        x.drop(2);
        x.put(0, 0);
        blown("the other one comes beside it, but can not be TAKEN then", x, NONE);
        x = Check.told("piece king 0 8 9;piece man 0 6 9;piece king 1 0 9;");
        for (int n = 1; n <= 3; n++) {
            x.tell(0);
            if (n < 3) blown("not by the WINDS that are TOLD", x, NONE);
        }
        blown("north three times", x, 0, 0, 0, 0);
        for (int n = 2; n >= 1; n--) {
            x.drop(n);
            blown("not without the last one", x, NONE);
        }
        due("nothing is changed", x.rule(5), 0);
    }

    // ---- 30

    private static long grown(long seed) {
        return (seed * 1103515245L + 12345L) % 4294967296L;
    }

    private static int windOf(long grown, int... odds) {
        int all = 0;
        for (int v : odds) all += v;
        long rest = grown / 65536 % 32768 % all;
        for (int w = 0; w < 5; w++) {
            if (rest < odds[w]) return w;
            rest -= odds[w];
        }
        return BAD;
    }

    private static final int[] SEEDS = {0, 1, -1, 2, 7, 12345, 65535, 65536, -65536, FAR, FAR - 1, DEEP, DEEP + 1, 0x40000000,
        0x7fff0000, -404969853, -460866786, 2088216195};

    /** The WIND of the first TURN is told by which of four men is TAKEN as the only king. */
    private void galeWinds() {
        check.says("the seed becomes seed times 1103515245 and 12345; bits 16 to 30 of it modulo all ODDS, summed: of these the ODDS of WIND 0 first");
        int[][] odds = {{1, 1, 1, 1, 1}, {9, 9, 9, 9, 9}, {0, 0, 0, 0, 1}, {1, 0, 0, 0, 0}, {0, 3, 0, 9, 1}, {2, 0, 5, 0, 0}};
        int[] squares = {1, 5, 7, 3, 0};
        for (int[] o : odds) {
            for (int seed : SEEDS) {
                WeatherChess x = Check.told("piece king 0 4 9;piece king 1 0 9;odds " + o[0] + " " + o[1] + " " + o[2] + " " + o[3] + " "
                    + o[4] + ";");
                int wind = windOf(grown(seed & 0xffffffffL), o);
                for (int w = 0; w < 4; w++) {
                    x.put(1, squares[w]);
                    due("seed " + seed + ", is it WIND " + w, x.gale(seed, 1, 1), w == wind ? 1 : NONE);
                }
            }
        }
    }

    /** A gale is as the TURNS that go by its WINDS, with the first MOVE each time. */
    private void galeAsGo() {
        check.says("BY GALES of a seed, the first MOVE each time, n TURNS (1 to 60) at most, till it is OVER");
        String text = "board 4 4;piece king 0 0 9;piece runner 0 4 9;piece king 1 15 9;piece sparrow 1 10 9;piece man 1 3 9;odds 2 3 4 1 1;";
        for (int seed : SEEDS) {
            WeatherChess x = Check.told(text);
            WeatherChess y = Check.told(text);
            long grown = seed & 0xffffffffL;
            for (int n = 1; n <= 60; n++) {
                if (y.rule(6) == NONE) {
                    grown = grown(grown);
                    int w = windOf(grown, 2, 3, 4, 1, 1);
                    y.go(w, y.moves(w) > 0 ? 0 : NONE);
                }
                if (n > 4 && n % 8 != 0 && n < 59) continue;
                due("seed " + seed + ", TURNS of " + n, x.gale(seed, n, 0), y.rule(5));
                due("seed " + seed + ", lost in " + n, x.gale(seed, n, 1), y.rule(6));
            }
        }
    }

    private void galeEnds() {
        check.says("TURNS that went (what 0), which SIDE has lost its king then (1; NONE).");
        WeatherChess x = Check.told("board 3 2;piece king 0 0 9;piece king 1 2 9;odds 0 3 0 0 0;");
        int[] went = {1, 2, 3, 3, 3};
        for (int n = 1; n <= 5; n++) {
            due("TURNS of " + n, x.gale(7, n, 0), went[n - 1]);
            due("lost in " + n, x.gale(7, n, 1), n < 3 ? NONE : 1);
        }
        due("sixty at most", x.gale(7, 60, 0), 3);
        x.turn(1);
        due("the other one can not by east", x.gale(7, 60, 0), 4);
        due("so it has lost", x.gale(7, 60, 1), 1);
        x.weigh(4, 1);
        x.weigh(1, 0);
        due("calm alone", x.gale(7, 60, 0), 60);
        due("calm alone", x.gale(7, 60, 1), NONE);
        due("calm alone, one", x.gale(7, 1, 0), 1);
        due("61", x.gale(7, 61, 0), BAD);
        due("none", x.gale(7, 0, 0), BAD);
        x = Twins.gone(Ways::over);
        due("OVER", x.gale(7, 60, 0), 0);
        due("OVER", x.gale(7, 60, 1), 1);
        x = Twins.gone(Ways::last);
        for (int w = 0; w < 4; w++) x.weigh(w, 0);
        due("as it would be, beyond the 1000th", x.gale(7, 60, 0), 60);
        due("nothing is changed", x.rule(5), 999);
    }
}
