/** What an object keeps beside the game: SEEN, TOLD, IMAGES, SHEETS: empty, full, cut, as it was; TURNS read of SHEETS. */
public final class KeptTest {
    private static final int BAD = -1, STATE = -2, FULL = -3, NONE = -4;
    private static final int FAR = Integer.MAX_VALUE, DEEP = Integer.MIN_VALUE;

    private final Check check = new Check("KeptTest");

    public static void main(String[] args) {
        KeptTest t = new KeptTest();
        t.newObject();
        t.seen();
        t.told();
        t.keep();
        t.imageOfEach();
        t.imageStays();
        t.backKeepsElse();
        t.sheetSizes();
        t.newRow();
        t.eachSheet();
        t.lanes();
        t.lowestBits();
        t.readEdges();
        t.readSome();
        t.readAsGo();
        t.readOfNone();
        t.readLast();
        t.torn();
        t.counts();
        t.check.close();
    }

    private void due(String call, long got, long want) {
        check.due(call, got, want);
    }

    // ---- 1
    private void newObject() {
        check.says("Three by three, two kings; SHEETS of nothing.");
        WeatherChess x = new WeatherChess();
        int[] rules = {3, 3, 2, 0, 0, 0, NONE};
        for (int what = 0; what < 7; what++) due("rule " + what, x.rule(what), rules[what]);
        int[][] kings = {{0, 0, 0, 9}, {1, 0, 8, 9}};
        for (int p = 0; p < 2; p++) for (int i = 0; i < 4; i++) due("PIECE " + p + ", " + i, x.piece(p, i), kings[p][i]);
        for (int w = 0; w < 5; w++) due("ODDS of " + w, x.odd(w), 1);
        int[] counts = {2, 0, 0, 0, 0, NONE, 18};
        for (int what = 0; what < 7; what++) due("count " + what, x.count(what), counts[what]);
        for (int k = 0; k < 4; k++) {
            due("SHEET " + k, x.lay(k, 0, 0), -11);
            for (int lane = 0; lane < 3; lane++) {
                due("SHEET " + k + " as of lane " + lane, x.read(k, lane, 0, 1), 0);
                due("its FAULT", x.torn(), 1);
            }
        }
        for (int k = 0; k < 2; k++) due("IMAGE " + k, x.back(k), STATE);
        due("fault", x.fault(), 0);
        due("torn", new WeatherChess().torn(), 0);
        check.says("BAD = -1, STATE = -2, FULL = -3, NONE = -4");
        due("BAD", WeatherChess.BAD, -1);
        due("STATE", WeatherChess.STATE, -2);
        due("FULL", WeatherChess.FULL, -3);
        due("NONE", WeatherChess.NONE, -4);
        WeatherChess y = new WeatherChess();
        y.go(1, 0);
        due("another object is another game", x.rule(5), 0);
        due("another object is another game", new WeatherChess().rule(5), 0);
    }

    // ---- 23, 24
    private void seen() {
        check.says("SEEN: .. how many are. BAD; FULL. SEEN are the first n alone: how many there were. BAD (n above that, too).");
        WeatherChess x = new WeatherChess();
        for (int i = 1; i <= 8; i++) {
            due("the one behind the last", x.forget(i), BAD);
            due("SEEN " + i, x.see(i, i < 8 ? NONE : 1), i);
            due("count", x.count(1), i);
        }
        due("the ninth", x.see(0, 0), FULL);
        due("still eight", x.count(1), 8);
        due("nine to forget", x.forget(9), BAD);
        due("all eight stay", x.forget(8), 8);
        due("they are so", x.fits(0), 1);
        due("seven stay", x.forget(7), 8);
        due("there is room again", x.see(0, 1), 8);
        due("that one is not so", x.fits(0), 0);
        due("full again", x.see(0, 0), FULL);
        due("the first seven", x.forget(7), 8);
        due("are so", x.fits(0), 1);
        due("none stays", x.forget(0), 7);
        due("nothing to forget", x.forget(0), 0);
        due("one to forget", x.forget(1), BAD);
        due("SEEN", x.see(8, 1), 1);
    }

    // ---- 27, 28
    private void told() {
        check.says("TOLD: a WIND more: how many are. BAD; FULL. TOLD WINDS are the first n alone: how many there were. BAD");
        WeatherChess x = Check.told("piece king 0 0 9;piece king 1 1 9;");
        for (int i = 1; i <= 3; i++) {
            due("the one behind the last", x.drop(i), BAD);
            due("TOLD " + i, x.tell(i), i);
            due("count", x.count(2), i);
        }
        for (int w = 0; w < 5; w++) due("the fourth", x.tell(w), FULL);
        due("still three", x.count(2), 3);
        due("four to drop", x.drop(4), BAD);
        due("all three stay", x.drop(3), 3);
        for (int i = 0; i < 3; i++) due("WIND " + i, x.blow(10 + i), 1 + i);
        due("two stay", x.drop(2), 3);
        due("there is room again", x.tell(4), 3);
        due("WIND 0", x.blow(10), 1);
        due("WIND 1", x.blow(11), 2);
        due("WIND 2", x.blow(12), 4);
        due("one stays", x.drop(1), 3);
        due("WIND 0", x.blow(10), 1);
        due("not so many", x.blow(11), NONE);
        due("none stays", x.drop(0), 1);
        due("nothing to drop", x.drop(0), 0);
        due("one to drop", x.drop(1), BAD);
        due("it can not be", x.blow(0), NONE);
    }

    // ---- 31, 32
    private void keep() {
        check.says("IMAGE k (0, 1) is ..: whether there was one (1, 0). All is as IMAGE k: TURNS. BAD; STATE: there is none.");
        for (int k = 0; k < 2; k++) {
            WeatherChess x = new WeatherChess();
            due("none yet", x.back(k), STATE);
            due("there was none", x.keep(k), 0);
            due("one", x.count(3), 1);
            due("the other one is none", x.back(1 - k), STATE);
            due("there was one", x.keep(k), 1);
            due("still one", x.count(3), 1);
            due("back leaves it", x.back(k), 0);
            due("there is one still", x.keep(k), 1);
            due("there was no other", x.keep(1 - k), 0);
            due("both", x.count(3), 2);
            due("a text by a FAULT leaves them", Check.tell(x, "?"), -10);
            due("both", x.count(3), 2);
            due("a text that is taken", x.text(), 0);
            due("none", x.count(3), 0);
            due("there is none", x.back(k), STATE);
        }
    }

    private interface Change {
        void of(WeatherChess x);
    }

    private interface Shown {
        long of(WeatherChess x);
    }

    /** One change alone behind keep(), one behind back(): each time it is as it was. */
    private void image(String name, Change change, Shown shown) {
        for (int k = 0; k < 2; k++) {
            WeatherChess x = Twins.gone(Ways::rich);
            long was = shown.of(x);
            x.keep(k);
            change.of(x);
            check.holds(name + " is another one now", shown.of(x) != was);
            x.back(k);
            due(name + " is as IMAGE " + k, shown.of(x), was);
            change.of(x);
            x.back(k);
            due(name + " is so again", shown.of(x), was);
            change.of(x);
            x.keep(1 - k);
            x.back(k);
            due(name + " is so beside another IMAGE", shown.of(x), was);
            x.back(1 - k);
            check.holds(name + " of the other IMAGE", shown.of(x) != was);
        }
    }

    private void imageOfEach() {
        check.says("PIECES, STEEPLES, ODDS, TURN, TURNS, what was SEEN, TOLD");
        for (int p = 0; p < 4; p++) {
            int q = p;
            image("SQUARE of " + p, x -> x.put(q, 7), x -> x.piece(q, 2));
            image("OIL of " + p, x -> x.oil(q, 5), x -> x.piece(q, 3));
        }
        image("who is TAKEN", x -> x.go(1, 2), x -> x.piece(1, 2));
        image("OVER", x -> x.go(1, 2), x -> x.rule(6));
        image("STEEPLES", x -> x.steeple(7, true), x -> x.rule(3));
        image("a STEEPLE less", x -> x.steeple(4, false), x -> x.rule(3));
        for (int w = 0; w < 5; w++) {
            int v = w;
            image("ODDS of " + w, x -> x.weigh(v, 7), x -> x.odd(v));
        }
        image("TURN", x -> x.turn(1), x -> x.rule(4));
        image("TURNS", x -> x.go(4, NONE), x -> x.rule(5));
        image("how many are SEEN", x -> x.forget(2), x -> x.count(1));
        image("the SQUARE of one SEEN", KeptTest::seeElsewhere, x -> x.fits(0));
        image("the SIDE of one SEEN", KeptTest::seeOther, x -> x.fits(0));
        image("how many are TOLD", x -> x.drop(1), x -> x.count(2));
        image("which are TOLD", KeptTest::tellOther, x -> x.blow(0));
    }

    private static void seeElsewhere(WeatherChess x) {
        x.forget(2);
        x.see(7, 1);
    }

    private static void seeOther(WeatherChess x) {
        x.forget(2);
        x.see(8, 0);
    }

    private static void tellOther(WeatherChess x) {
        x.drop(0);
        x.tell(1);
        x.tell(4);
    }

    private void imageStays() {
        check.says("All is as IMAGE k: TURNS.");
        WeatherChess x = Twins.gone(Ways::over);
        x.keep(1);
        due("back to ahead of it", x.back(0), 0);
        due("not OVER", x.rule(6), NONE);
        due("TURN", x.go(4, NONE), NONE);
        due("OVER again", x.back(1), 2);
        due("it is OVER", x.rule(6), 1);
        due("no TURN", x.go(4, NONE), STATE);
        x = Twins.gone(Ways::lastButOne);
        x.keep(0);
        x.go(4, NONE);
        x.keep(1);
        due("FULL", x.go(4, NONE), FULL);
        due("one less", x.back(0), 998);
        due("the 999th", x.go(4, NONE), NONE);
        due("all of them", x.back(1), 999);
        due("FULL", x.go(4, NONE), FULL);
    }

    private void backKeepsElse() {
        check.says("IMAGE k (0, 1) is PIECES .. (SHEETS, THE TAPE, FAULTS are none of it)");
        WeatherChess x = new WeatherChess();
        x.keep(0);
        x.sheet(0, 1, 5);
        Check.lay(x, 0, 4, NONE);
        Check.tell(x, "?");
        x.read(3, 0, 0, 1);
        x.feed(0x7475726e20313b20L);
        due("back", x.back(0), 0);
        due("SHEET 0", x.count(5), 5);
        due("THE TAPE", x.count(4), 8);
        due("fault", x.fault(), 1);
        due("torn", x.torn(), 1);
        due("its CELLS", x.read(0, 1, 0, 1), 1);
        due("back", x.back(0), 0);
        due("the text", x.text(), 1);
    }

    // ---- 33

    private void sheetSizes() {
        check.says("with 0 to 40 CELLS, or nothing (at first)");
        for (int k = 0; k < 4; k++) {
            for (int n : new int[] {0, 1, 39, 40}) {
                WeatherChess x = new WeatherChess();
                due("SHEET " + k + " of " + n, x.sheet(k, k % 3, n), 1);
                due("CELLS of SHEET 0", x.count(5), k == 0 ? n : NONE);
                if (n > 0) due("the first", x.lay(k, 0, 1), 1);
                if (n > 0) due("the last", x.lay(k, n - 1, 1), 1);
                due("the one behind it", x.lay(k, n, 1), -12);
                due("the one ahead", x.lay(k, -1, 1), -12);
            }
            WeatherChess x = new WeatherChess();
            due("41", x.sheet(k, 0, 41), BAD);
            due("far", x.sheet(k, 0, FAR), BAD);
            due("-1", x.sheet(k, 0, -1), -14);
            due("deep", x.sheet(k, 0, DEEP), -14);
            due("still nothing", x.lay(k, 0, 1), -11);
        }
    }

    private void newRow() {
        check.says("A SHEET is a new row of CELLS 0: 1.");
        for (int lane = 0; lane < 3; lane++) {
            WeatherChess x = Check.told("piece king 0 4 9;piece king 1 8 9;");
            x.sheet(0, lane, 40);
            for (int i = 0; i < 40; i++) x.lay(0, i, 9);
            due("no such TURN", x.read(0, lane, 38, 1), -20);
            x.sheet(0, lane, 40);
            for (int f = 0; f < 39; f++) {
                // WIND 0, MOVE 0
                x.put(0, 4);
                x.turn(0);
                due("CELLS " + f + " and " + (f + 1), x.read(0, lane, f, 1), 1);
                due("by the first MOVE of WIND 0", x.piece(0, 2), 1);
            }
            x.sheet(0, lane, 2);
            due("shorter", x.lay(0, 2, 0), -12);
            x.sheet(0, lane, 0);
            due("no CELLS", x.lay(0, 0, 0), -12);
            due("no CELLS", x.count(5), 0);
            x.sheet(0, (lane + 1) % 3, 2);
            x.turn(0);
            x.put(0, 4);
            due("of another lane now", x.read(0, lane, 0, 1), 0);
            due("CAST", x.torn(), 3);
            due("its lane now", x.read(0, (lane + 1) % 3, 0, 1), 1);
        }
    }

    private void eachSheet() {
        check.says("SHEETS 0 to 3");
        WeatherChess x = new WeatherChess();
        for (int k = 0; k < 4; k++) x.sheet(k, k % 3, 2 + k);
        for (int k = 0; k < 4; k++) Check.lay(x, k, k == 1 ? 1 : 4, k == 1 ? 0 : NONE);
        for (int k = 0; k < 4; k++) {
            due("the last of " + k, x.lay(k, 1 + k, 0), 1);
            due("behind it", x.lay(k, 2 + k, 0), -12);
        }
        x.lay(0, 1, NONE);
        due("SHEET 0", x.read(0, 0, 0, 1), 1);
        due("SHEET 3", x.read(3, 0, 0, 1), 1);
        due("SHEET 1", x.read(1, 1, 0, 1), 1);
        due("the king went", x.piece(0, 2), 1);
        due("SHEET 2", x.read(2, 2, 0, 1), 1);
        x.sheet(2, 0, 0);
        due("SHEET 1 stays", x.lay(1, 2, 0), 1);
        due("SHEET 3 stays", x.lay(3, 4, 0), 1);
        due("SHEET 0 stays", x.count(5), 2);
    }

    // ---- 34

    private void lanes() {
        check.says("rows of BYTES (lane 0), SHORTS (1), INTS (2)");
        for (int lane = 0; lane < 3; lane++) {
            for (int as = 0; as < 3; as++) {
                WeatherChess x = new WeatherChess();
                x.sheet(2, lane, 2);
                Check.lay(x, 2, 4, NONE);
                due("lane " + lane + " as " + as, x.read(2, as, 0, 1), as == lane ? 1 : 0);
                due("its FAULT", x.torn(), as == lane ? 0 : 3);
                due("TURNS", x.rule(5), as == lane ? 1 : 0);
            }
        }
    }

    /** A calm and NONE, written as v and m, are TURNS only where the lane cuts them to 4 and -4. */
    private void cut(int lane, int v, int m, boolean goes) {
        WeatherChess x = new WeatherChess();
        x.sheet(0, lane, 2);
        due("lay " + v, x.lay(0, 0, v), 1);
        due("lay " + m, x.lay(0, 1, m), 1);
        due("lane " + lane + " of " + v + " and " + m, x.read(0, lane, 0, 1), goes ? 1 : -20);
    }

    private void lowestBits() {
        check.says("CELL i of a SHEET becomes v (its lowest bits): 1. (BYTES, SHORTS, INTS, all with a sign)");
        for (int lane = 0; lane < 3; lane++) {
            cut(lane, 4, NONE, true);
            cut(lane, 4 + 256, NONE, lane == 0);
            cut(lane, 4 - 256, NONE, lane == 0);
            cut(lane, 4, 252, lane == 0);
            cut(lane, 4, NONE - 256, lane == 0);
            cut(lane, 4 + 128, NONE, false);
            cut(lane, 4, NONE - 128, false);
            cut(lane, 4 + 65536, NONE, lane < 2);
            cut(lane, 4 - 65536, NONE, lane < 2);
            cut(lane, 4, 65532, lane < 2);
            cut(lane, 4, NONE + 65536, lane < 2);
            cut(lane, 4 + 32768, NONE, lane == 0);
            cut(lane, 4, NONE - 32768, lane == 0);
            cut(lane, DEEP + 4, NONE, lane < 2);
            cut(lane, 4, FAR - 3, lane < 2);
            cut(lane, 4, FAR, false);
            cut(lane, DEEP, NONE, lane < 2);
            cut(lane, -1, NONE, false);
            cut(lane, 255, NONE, false);
            cut(lane, 0, 256 + NONE, lane == 0);
        }
    }

    // ---- 35, 36

    private void reads(String name, WeatherChess x, int lane, int f, int n, int went, int fault) {
        int turns = x.rule(5);
        due(name, x.read(0, lane, f, n), went);
        due(name + ", torn", x.torn(), fault);
        due(name + ", TURNS", x.rule(5), turns + went);
    }

    private static WeatherChess calm(int lane, int size) {
        WeatherChess x = new WeatherChess();
        x.sheet(0, lane, size);
        for (int i = 0; i < size; i++) x.lay(0, i, i % 2 == 0 ? 4 : NONE);
        return x;
    }

    private void readEdges() {
        check.says("two CELLS each from CELL f on .. What the machine refuses: those that were whole ahead go");
        for (int lane = 0; lane < 3; lane++) {
            WeatherChess x = calm(lane, 40);
            reads("all", x, lane, 0, 13, 13, 0);
            reads("from 2", x, lane, 2, 13, 13, 0);
            reads("to the last one", x, lane, 14, 13, 13, 0);
            reads("one CELL too far", x, lane, 16, 13, 12, 2);
            reads("the last one", x, lane, 38, 1, 1, 0);
            reads("behind the last one", x, lane, 38, 2, 1, 2);
            reads("far behind the last one", x, lane, 38, 13, 1, 2);
            for (int f : new int[] {39, 40, 41, FAR - 1, FAR, DEEP, DEEP + 1, -40, -2, -1}) {
                for (int n : new int[] {1, 2, 13}) reads("f " + f + " of " + n, x, lane, f, n, 0, 2);
            }
            x = calm(lane, 5);
            reads("two and a half", x, lane, 0, 2, 2, 0);
            reads("two and a half", x, lane, 0, 3, 2, 2);
            reads("half of one", x, lane, 4, 1, 0, 2);
            x = calm(lane, 1);
            reads("one CELL", x, lane, 0, 1, 0, 2);
            x = calm(lane, 0);
            reads("no CELL", x, lane, 0, 1, 0, 2);
            reads("no CELL, no TURN", x, lane, 0, 0, 0, 0);
            due("14", x.read(0, lane, 0, 14), BAD);
            due("-1", x.read(0, lane, 0, -1), BAD);
        }
    }

    private void readSome() {
        check.says("-20 less i (from 0 on): TURN i, whole, is refused by go() (BAD, STATE, FULL): then none goes");
        for (int i = 0; i < 13; i++) {
            WeatherChess x = calm(2, 40);
            x.lay(0, 2 * i + 1, 0);
            due("TURN " + i, x.read(0, 2, 0, 13), -20 - i);
            due("none goes", x.rule(5), 0);
            reads("those ahead of it", x, 2, 0, i, i, 0);
            x.lay(0, 2 * i + 1, NONE);
            reads("all", x, 2, 0, 13, 13, 0);
        }
        WeatherChess x = calm(2, 40);
        Check.lay(x, 0, 4, NONE, 0, 0, 1, 0, 0, 1);
        due("the fourth", x.read(0, 2, 0, 4), -23);
        due("king 0 is where it was", x.piece(0, 2), 0);
        due("king 1 is where it was", x.piece(1, 2), 8);
        due("OIL", x.count(6), 18);
        due("TURN", x.rule(4), 0);
        due("three go", x.read(0, 2, 0, 3), 3);
        due("king 1 went by the second", x.piece(1, 2), 5);
        due("king 0 went by the third", x.piece(0, 2), 1);
    }

    private void readAsGo() {
        check.says("TURNS (WIND, MOVE) are read .. one behind another as by go(): how many went.");
        String text = "board 4 4;piece king 0 0 9;piece runner 0 4 5;piece king 1 15 9;piece man 1 7 2;piece man 1 10 1;";
        int[] cells = {1, 2, 0, 0, 2, 1, 1, NONE, 3, NONE};
        WeatherChess x = Check.told(text);
        WeatherChess y = Check.told(text);
        x.sheet(0, 1, 10);
        Check.lay(x, 0, cells);
        int went = 0;
        for (int i = 0; i < 5; i++) {
            int answer = y.go(cells[2 * i], cells[2 * i + 1]);
            if (answer == BAD || answer == STATE) break;
            went++;
        }
        due("as many as by go()", x.read(0, 1, 0, went), went);
        for (int p = 0; p < 5; p++) {
            due("SQUARE of " + p, x.piece(p, 2), y.piece(p, 2));
            due("OIL of " + p, x.piece(p, 3), y.piece(p, 3));
        }
        for (int what = 4; what < 7; what++) due("rule " + what, x.rule(what), y.rule(what));
        x = Check.told("piece king 0 0 9;piece king 1 1 9;");
        x.sheet(0, 0, 4);
        Check.lay(x, 0, 1, 0);
        due("it takes the king", x.read(0, 0, 0, 1), 1);
        due("it is OVER", x.rule(6), 1);
        due("no TURN more", x.read(0, 0, 0, 1), -20);
        due("behind the last CELL, when it is OVER", x.read(0, 0, 4, 1), 0);
    }

    private void readOfNone() {
        check.says("of n 0: 0, no FAULT, whatever the SHEET is");
        for (int k = 0; k < 4; k++) {
            for (int lane = 0; lane < 3; lane++) {
                for (int f : new int[] {0, -1, 40, FAR, DEEP}) {
                    WeatherChess x = Twins.gone(Ways::rich);
                    due("torn ahead of it", x.torn(), 1);
                    due("SHEET " + k + " as " + lane + " from " + f, x.read(k, lane, f, 0), 0);
                    due("no FAULT", x.torn(), 0);
                }
            }
        }
        due("OVER", Twins.gone(Ways::over).read(0, 0, 0, 0), 0);
        due("BAD: k", new WeatherChess().read(4, 0, 0, 0), BAD);
        due("BAD: k", new WeatherChess().read(-1, 0, 0, 0), BAD);
        due("BAD: lane", new WeatherChess().read(0, 3, 0, 0), BAD);
        due("BAD: lane", new WeatherChess().read(0, -1, 0, 0), BAD);
    }

    private void readLast() {
        check.says("FULL: it would be the 1000th. (as by go())");
        WeatherChess x = Twins.gone(Ways::lastButOne);
        due("two of them", x.read(0, 0, 0, 2), -21);
        due("TURNS", x.rule(5), 998);
        due("the 999th", x.read(0, 0, 0, 1), 1);
        due("the 1000th", x.read(0, 0, 0, 1), -20);
        due("the 1000th and more", x.read(0, 0, 0, 13), -20);
        due("none", x.read(0, 0, 0, 0), 0);
        due("TURNS", x.rule(5), 999);
    }

    private void torn() {
        check.says("The FAULT of the latest read() that answered 0 or more; 0 (one that is refused leaves it).");
        WeatherChess x = Twins.gone(Ways::rich);
        due("NULL", x.torn(), 1);
        due("BAD: k", x.read(4, 0, 0, 1), BAD);
        due("it stays", x.torn(), 1);
        due("BAD: lane", x.read(0, 3, 0, 1), BAD);
        due("it stays", x.torn(), 1);
        due("BAD: n", x.read(0, 0, 0, 14), BAD);
        due("it stays", x.torn(), 1);
        due("refused by go()", x.read(0, 0, 1, 1), -20);
        due("it stays", x.torn(), 1);
        due("one that goes", x.read(0, 0, 4, 1), 1);
        due("no FAULT", x.torn(), 0);
        due("CAST", x.read(1, 0, 0, 1), 0);
        due("CAST", x.torn(), 3);
        due("refused by go(), ahead of an INDEX", x.read(0, 0, 1, 3), -20);
        due("it stays", x.torn(), 3);
        due("INDEX behind two", x.read(0, 0, 0, 2), 2);
        due("no FAULT", x.torn(), 0);
        due("INDEX", x.read(1, 1, 2, 1), 0);
        due("INDEX", x.torn(), 2);
        due("asked again", x.torn(), 2);
        x.sheet(1, 1, -1);
        x.lay(3, 0, 0);
        x.lay(0, 99, 0);
        x.keep(0);
        x.back(0);
        x.sheet(1, 1, 9);
        x.text();
        due("nothing else is a read()", x.torn(), 2);
        due("none", x.read(3, 0, 0, 0), 0);
        due("no FAULT", x.torn(), 0);
    }

    // ---- 37

    private void counts() {
        check.says("0 PIECES not TAKEN, 1 SEEN, 2 TOLD, 3 IMAGES, 4 bytes on THE TAPE, 5 CELLS of SHEET 0 (NONE: nothing), 6 all OIL");
        int[] rich = {4, 3, 2, 2, 7, 6, 20};
        int[] over = {2, 1, 1, 1, 0, 4, 22};
        int[] full = {2, 8, 3, 0, 320, NONE, 18};
        for (int what = 0; what < 7; what++) {
            due("rich, " + what, Twins.gone(Ways::rich).count(what), rich[what]);
            due("over, " + what, Twins.gone(Ways::over).count(what), over[what]);
            due("full, " + what, Twins.gone(Ways::full).count(what), full[what]);
        }
        for (int what : new int[] {-1, 7, FAR, DEEP}) due("count " + what, Twins.gone(Ways::rich).count(what), BAD);
        WeatherChess x = Twins.gone(Ways::over);
        x.put(1, 4);
        due("it stands again", x.count(0), 3);
        x.oil(1, 0);
        due("all OIL", x.count(6), 13);
        x.sheet(0, 0, 0);
        due("no CELLS", x.count(5), 0);
        x.keep(0);
        due("one IMAGE", x.count(3), 1);
        x.feed(0);
        due("bytes", x.count(4), 8);
    }
}
