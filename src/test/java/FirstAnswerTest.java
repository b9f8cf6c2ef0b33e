/** Where two answers would fit, the first that fits; where several are as good, the first of them. */
public final class FirstAnswerTest {
    private static final int BAD = -1, STATE = -2, FULL = -3, NONE = -4;
    private static final int FAR = Integer.MAX_VALUE, DEEP = Integer.MIN_VALUE;

    private final Check check = new Check("FirstAnswerTest");

    public static void main(String[] args) {
        FirstAnswerTest t = new FirstAnswerTest();
        t.shown();
        t.go();
        t.gales();
        t.since();
        t.noted();
        t.blow();
        t.sheets();
        t.read();
        t.readFaults();
        t.textFaults();
        t.faultsBehindAll();
        t.firstBest();
        t.firstHope();
        t.firstRow();
        t.firstBlown();
        t.firstMove();
        t.check.close();
    }

    private void due(String call, long got, long want) {
        check.due(call, got, want);
    }

    private static WeatherChess gone(Twins.Way way) {
        return Twins.gone(way);
    }

    private static WeatherChess over() {
        return gone(Ways::over);
    }

    // ---- 7, 16, 18
    private void shown() {
        check.says("BAD; NONE: none.");
        due("no such SQUARE, nobody there", gone(Ways::rich).square(9), BAD);
        due("a SQUARE with nobody", gone(Ways::rich).square(7), NONE);
        check.says("(It is OVER: 1 for who took the king, 0 for the other one.)");
        due("OVER, no SIDE", over().chance(2, 1, 0), BAD);
        due("OVER, no n", over().chance(0, 4, 0), BAD);
        due("OVER, no part", over().chance(0, 1, 2), BAD);
        due("OVER, in none", over().chance(0, 0, 0), 1);
        check.says("TURNS that went (what 0), which SIDE has lost its king then (1; NONE) .. BAD.");
        due("OVER, no n", over().gale(1, 0, 1), BAD);
        due("OVER, n too large", over().gale(1, 61, 1), BAD);
        due("OVER, no part", over().gale(1, 1, 2), BAD);
    }

    // ---- 17
    private void go() {
        check.says("BAD: no such WIND, MOVE, NONE where there are some; STATE: it is OVER; FULL: it would be the 1000th.");
        due("BAD, STATE: the WIND", over().go(5, NONE), BAD);
        due("BAD, STATE: the WIND", over().go(-1, NONE), BAD);
        due("BAD, STATE: the MOVE", over().go(1, 0), BAD);
        due("BAD, STATE: the MOVE", over().go(1, -1), BAD);
        due("BAD, FULL: the WIND", gone(Ways::last).go(5, NONE), BAD);
        due("BAD, FULL: the MOVE", gone(Ways::last).go(1, 1), BAD);
        due("BAD, FULL: NONE", gone(Ways::last).go(1, NONE), BAD);
        due("STATE, FULL", gone(Ways::overAndLast).go(4, NONE), STATE);
        due("STATE, FULL by a WIND", gone(Ways::overAndLast).go(1, NONE), STATE);
        due("BAD, STATE, FULL", gone(Ways::overAndLast).go(1, 0), BAD);
        due("BAD, STATE, FULL", gone(Ways::overAndLast).go(5, NONE), BAD);
    }

    // ---- 19 to 21
    private void gales() {
        check.says("BAD; STATE: it is OVER.");
        due("byWind: no WIND", over().byWind(5, 1, 0), BAD);
        due("byWind: no n", over().byWind(0, 0, 0), BAD);
        due("byWind: n too large", over().byWind(0, 4, 0), BAD);
        due("byWind: no part", over().byWind(0, 1, 2), BAD);
        due("best: no WIND", over().best(-1, 1), BAD);
        due("best: no n", over().best(0, 0), BAD);
        due("best: n too large", over().best(0, 4), BAD);
        due("hope: no n", over().hope(0), BAD);
        due("hope: n too large", over().hope(4), BAD);
        check.says("BAD; STATE; NONE: there are none.");
        due("STATE, NONE by calm", over().best(4, 1), STATE);
        due("STATE, NONE by a WIND", over().best(0, 1), STATE);
        due("BAD, NONE", gone(Ways::rich).best(4, 0), BAD);
        due("BAD, NONE", gone(Ways::rich).best(3, 4), BAD);
        due("NONE", gone(Ways::rich).best(3, 3), NONE);
    }

    // ---- 22, 32
    private void since() {
        check.says("BAD; STATE: there is no such IMAGE; NONE (10 and i): none, not so many.");
        WeatherChess x = new WeatherChess();
        due("BAD, STATE: k", x.since(2, 1, 0), BAD);
        due("BAD, STATE: n", x.since(0, 4, 0), BAD);
        due("BAD, STATE: what", x.since(0, 1, 9), BAD);
        due("BAD, STATE: what", x.since(0, 1, 13), BAD);
        due("STATE, NONE: not so many", x.since(0, 0, 10), STATE);
        x.keep(0);
        due("BAD, NONE: n", x.since(0, -1, 10), BAD);
        due("BAD, NONE: what", x.since(0, 0, 13), BAD);
        due("STATE, NONE: the other IMAGE", x.since(1, 0, 10), STATE);
        due("NONE, both", x.since(0, 1, 11), NONE);
        check.says("BAD; STATE: there is none.");
        due("BAD, STATE", new WeatherChess().back(2), BAD);
        due("BAD, STATE", new WeatherChess().back(-1), BAD);
    }

    // ---- 23, 27
    private void noted() {
        check.says("SEEN: .. BAD; FULL.");
        due("no SQUARE", gone(Ways::full).see(4, 0), BAD);
        due("no SQUARE", gone(Ways::full).see(-1, 0), BAD);
        due("no SIDE", gone(Ways::full).see(0, 2), BAD);
        due("no SIDE", gone(Ways::full).see(0, -1), BAD);
        check.says("TOLD: .. BAD; FULL.");
        due("no WIND", gone(Ways::full).tell(5), BAD);
        due("no WIND", gone(Ways::full).tell(-1), BAD);
    }

    // ---- 29
    private void blow() {
        check.says("BAD; STATE: it is OVER; NONE: it can not be; 10 and i: not so many.");
        due("BAD, STATE", over().blow(1), BAD);
        due("BAD, STATE", over().blow(13), BAD);
        due("STATE, NONE: not so many", over().blow(12), STATE);
        WeatherChess x = over();
        x.drop(0);
        due("STATE, NONE: nothing TOLD", x.blow(0), STATE);
        due("BAD, NONE", new WeatherChess().blow(9), BAD);
        due("BAD, NONE", new WeatherChess().blow(-4), BAD);
        due("NONE, both", new WeatherChess().blow(10), NONE);
    }

    // ---- 33, 34
    private void sheets() {
        check.says("BAD: also n above 40; -14 (SIZE): n below 0.");
        for (int n : new int[] {-1, DEEP}) {
            due("BAD, SIZE: k", gone(Ways::rich).sheet(4, 0, n), BAD);
            due("BAD, SIZE: k", gone(Ways::rich).sheet(-1, 0, n), BAD);
            due("BAD, SIZE: lane", gone(Ways::rich).sheet(0, 3, n), BAD);
            due("BAD, SIZE: lane", gone(Ways::rich).sheet(0, -1, n), BAD);
        }
        check.says("BAD: k; -10 less the FAULT: NULL, INDEX.");
        due("BAD, NULL", new WeatherChess().lay(4, 0, 0), BAD);
        due("BAD, INDEX", gone(Ways::rich).lay(-1, 99, 0), BAD);
        for (int i : new int[] {-1, 40, FAR, DEEP}) due("NULL, INDEX", gone(Ways::rich).lay(3, i, 0), -11);
    }

    private static WeatherChess laid(Twins.Way way, int lane, int size, int... cells) {
        WeatherChess x = gone(way);
        x.sheet(0, lane, size);
        Check.lay(x, 0, cells);
        return x;
    }

    // ---- 35
    private void read() {
        check.says("BAD: k, lane, n; -20 less i (from 0 on): TURN i, whole, is refused by go() ..; the first met.");
        due("BAD, nothing to read", gone(Ways::rich).read(4, 0, 0, 0), BAD);
        due("BAD, nothing to read", gone(Ways::rich).read(0, 3, 0, 0), BAD);
        due("BAD, NULL", new WeatherChess().read(0, 0, 0, 14), BAD);
        due("BAD, CAST", gone(Ways::rich).read(0, 3, 0, 1), BAD);
        due("BAD, refused", laid(Ways::rich, 0, 40, 9).read(0, 0, 0, 14), BAD);
        due("two are refused", laid(Ways::rich, 0, 8, 4, NONE, 9, 9, 4, NONE, 9, 9).read(0, 0, 0, 4), -21);
        due("refused, INDEX", laid(Ways::rich, 0, 4, 4, NONE, 9, 9).read(0, 0, 0, 3), -21);
        due("refused, INDEX of a half one", laid(Ways::rich, 0, 5, 4, NONE, 9, 9, 4).read(0, 0, 0, 13), -21);
        due("a half one, as it would be refused", laid(Ways::rich, 0, 3, 4, NONE, 9).read(0, 0, 0, 2), 1);
        due("BAD, STATE of a TURN", laid(Ways::over, 0, 4, 1, 0, 4, NONE).read(0, 0, 0, 2), -20);
        due("OVER, n 0", over().read(0, 0, 0, 0), 0);
        due("the 1000th, n 0", gone(Ways::last).read(0, 0, 0, 0), 0);
        due("FULL of the second, BAD of the third",
            laid(Ways::lastButOne, 0, 6, 4, NONE, 4, NONE, 9, 9).read(0, 0, 0, 3), -21);
        due("BAD of the second, FULL of the third",
            laid(Ways::lastButOne, 0, 6, 4, NONE, 9, 9, 4, NONE).read(0, 0, 0, 3), -21);
    }

    private void torn(String name, WeatherChess x, int lane, int f, int n, int went, int fault) {
        due(name, x.read(0, lane, f, n), went);
        due("torn by " + name, x.torn(), fault);
    }

    // ---- 35, 36
    private void readFaults() {
        check.says("What the machine refuses: those that were whole ahead go (its FAULT is asked by torn() ..)");
        for (int f : new int[] {-1, 0, 99, FAR, DEEP}) {
            torn("NULL, INDEX " + f, new WeatherChess(), 1, f, 1, 0, 1);
            torn("CAST, INDEX " + f, laid(Ways::none, 0, 0), 1, f, 1, 0, 3);
            torn("INDEX " + f, laid(Ways::none, 0, 0), 0, f, 1, 0, 2);
        }
        torn("CAST, refused", laid(Ways::none, 2, 4, 9, 9, 9, 9), 1, 0, 2, 0, 3);
        torn("INDEX ahead of one that would be refused", laid(Ways::none, 2, 4, 9, 9, 9, 9), 2, -1, 2, 0, 2);
        torn("INDEX ahead of one that would be refused", laid(Ways::none, 2, 4, 9, 9, 9, 9), 2, -2, 3, 0, 2);
        torn("of none, OVER", over(), 0, 0, 0, 0, 0);
        torn("CAST, OVER", over(), 1, 0, 1, 0, 3);
        torn("INDEX, OVER", over(), 0, 3, 1, 0, 2);
        torn("INDEX, the 1000th", gone(Ways::last), 0, 39, 1, 0, 2);
    }

    private void fault(String text, int fault, int place) {
        WeatherChess x = new WeatherChess();
        due("text " + text, Check.tell(x, text), -10 - place);
        due("fault of " + text, x.fault(), fault);
    }

    // ---- 4, 5
    private void textFaults() {
        check.says("FAULTS, the first met as it is read (a TOKEN is read when the one before has been taken)");
        fault("123", 1, 0);
        fault("turn 123;", 1, 5);
        fault("turn 2?", 3, 5);
        fault("turn 2 123", 3, 5);
        fault("turn ?;", 1, 5);
        fault("turn;?", 2, 4);
        fault("turn 0 1;?", 2, 7);
        fault("board 6 9;", 3, 6);
        fault("board 2 2;board 9", 4, 10);
        fault("board 2 2;board ?", 4, 10);
        fault("turn 0;turn 2;", 4, 7);
        fault("odds 1 1 1 1 1;odds 0 0 0 0 0;", 4, 15);
        fault("odds 0 0 0 0 0 0", 3, 13);
        fault("odds 0 0 0 0 0?", 3, 13);
        fault("odds 0 0 10 0 0;", 3, 9);
        fault("odds 0 0 0 0;", 2, 12);
        fault("steeple 24;steeple 24", 4, 19);
        fault("steeple 3;piece king 0 3 99;", 4, 23);
        fault("steeple 3;piece king 2 3 9;", 3, 21);
        fault("steeple 25 25;", 3, 8);
        fault("piece lord 9 99 9;", 2, 6);
        fault("piece 123 0", 1, 6);
        fault("boards 2 2;?", 2, 0);
        String six = "piece man 0 0 1;piece man 0 1 1;piece man 0 2 1;piece man 0 3 1;piece man 0 4 1;piece man 0 5 1;";
        fault(six + "piece man 0 0 1;", 5, 96);
        fault(six + "piece lord", 5, 96);
        fault(six + "piece 123", 5, 96);
        fault(six + "piece man 2 25 10;", 5, 96);
        fault(six + "pieces", 2, 96);
    }

    private void faultsBehindAll() {
        check.says("Behind all (the length): 6 a SQUARE that there is not; 7 a SIDE without a king ..; 8 no piece at all ..");
        fault("steeple 9", 2, 9);
        fault("piece man 0 24 1;steeple 9;?", 1, 27);
        fault("piece man 0 24 1;", 6, 17);
        fault("steeple 24;piece man 0 0 1;", 6, 27);
        fault("piece king 0 0 1;piece king 0 1 1;piece king 1 9 1;", 6, 51);
        fault("steeple 0;steeple 9;", 6, 20);
        fault("steeple 8;steeple 24;", 6, 21);
        fault("steeple 0;", 8, 10);
        fault("steeple 0;piece man 0 1 1;", 7, 26);
        fault("steeple 8;piece king 0 1 1;", 7, 27);
    }

    // ---- 20
    private void firstBest() {
        check.says("The MOVE for it, the first that is best: its number (0 on, as for move()).");
        WeatherChess x = Check.told("board 5 5;piece king 0 20 9;piece sparrow 0 7 9;piece sparrow 0 17 9;piece king 1 14 9;");
        due("the first that takes", x.move(1, 2), 114);
        due("another one that takes", x.move(1, 3), 214);
        for (int n = 1; n < 4; n++) due("best of two in " + n, x.best(1, n), 2);
        for (int n = 1; n < 3; n++) due("none helps in " + n, x.best(2, n), 0);
        x.put(3, 24);
        due("now the second", x.move(1, 4), 224);
        for (int n = 1; n < 4; n++) due("the only best in " + n, x.best(1, n), 4);
        x = Check.told("board 2 2;piece king 0 0 9;piece man 0 1 9;piece king 1 3 9;");
        due("the first MOVE does not take", x.move(2, 0), 2);
        for (int n = 1; n < 4; n++) due("the second does in " + n, x.best(2, n), 1);
    }

    // ---- 21
    private void firstHope() {
        check.says("The WIND by which byWind() is the greatest, of several the first.");
        WeatherChess x = new WeatherChess();
        for (int n = 1; n < 3; n++) due("all alike", x.hope(n), 0);
        x = Check.told("piece king 0 0 9;piece man 0 3 9;piece man 0 1 9;piece king 1 4 9;");
        for (int n = 1; n < 4; n++) {
            due("east", x.byWind(1, n, 0), x.byWind(1, n, 1));
            due("south", x.byWind(2, n, 0), x.byWind(2, n, 1));
            due("east ahead of south", x.hope(n), 1);
        }
        x.weigh(1, 0);
        for (int n = 1; n < 4; n++) due("east ahead of south, though without ODDS", x.hope(n), 1);
        x.weigh(1, 1);
        x.put(1, 5);
        for (int n = 1; n < 4; n++) due("south ahead of west", x.hope(n), 2);
        x.put(2, 7);
        for (int n = 1; n < 4; n++) due("north ahead of west", x.hope(n), 0);
        x.put(2, 6);
        for (int n = 1; n < 4; n++) due("west alone", x.hope(n), 3);
    }

    private void row(WeatherChess x, int n, int count, int... turns) {
        due("how many in " + n, x.since(0, n, 0), count);
        for (int i = 0; i < 3; i++) due("TURN " + i + " of " + n, x.since(0, n, 10 + i), i < turns.length ? turns[i] : NONE);
    }

    // ---- 22
    private void firstRow() {
        check.says("First is that by WINDS and MOVES of the first TURN, then of the second one, and so on.");
        WeatherChess x = new WeatherChess();
        x.keep(0);
        x.put(0, 4);
        x.turn(1);
        row(x, 3, 2, 100, 499, 200);
        x = Check.told("piece king 0 0 9;piece man 0 3 9;piece king 1 8 9;");
        x.keep(0);
        x.put(0, 1);
        x.put(1, 4);
        x.oil(0, 8);
        x.oil(1, 8);
        x.turn(1);
        row(x, 3, 2, 100, 499, 101);
        // a WIND without MOVES for PIECES without OIL is as good as a calm
        x = Check.told("piece king 0 0 0;piece king 1 8 0;");
        x.keep(0);
        row(x, 2, 25, 99, 99);
        x.turn(1);
        row(x, 1, 5, 99);
        row(x, 3, 125, 99, 99, 99);
    }

    private void blown(WeatherChess x, int fewest, int... winds) {
        due("fewest", x.blow(0), fewest);
        for (int i = 0; i < 3; i++) due("WIND " + i, x.blow(10 + i), i < winds.length ? winds[i] : NONE);
    }

    private static void tell(WeatherChess x, int... winds) {
        x.drop(0);
        for (int w : winds) x.tell(w);
    }

    // ---- 29
    private void firstBlown() {
        check.says("The fewest TOLD WINDS that others must be blown for ..: WIND i then, of several the first by WINDS.");
        WeatherChess x = Check.told("piece king 0 0 9;piece man 0 3 9;piece man 0 1 9;piece king 1 4 9;");
        tell(x, 4);
        blown(x, 1, 1);
        tell(x, 2);
        blown(x, 0, 2);
        x = Check.told("board 5 5;piece king 0 20 9;piece runner 0 0 9;piece king 1 4 9;");
        tell(x, 4, 4, 4);
        blown(x, 1, 1, 4, 4);
        tell(x, 0, 4, 4);
        blown(x, 1, 0, 4, 1);
        tell(x, 4, 4, 1);
        blown(x, 0, 4, 4, 1);
        tell(x, 1, 2, 3);
        blown(x, 0, 1, 2, 3);
        // north, calm, east would be ahead of it, but are two others
        tell(x, 2, 4, 4);
        blown(x, 1, 1, 4, 4);
        x.put(2, 3);
        x.put(1, 5);
        tell(x, 4, 4, 4);
        blown(x, 2, 0, 4, 1);
    }

    // ---- 30
    private void firstMove() {
        check.says("BY GALES of a seed, the first MOVE each time");
        WeatherChess x = Check.told("board 2 2;piece king 0 2 9;piece runner 0 0 9;piece king 1 1 9;odds 0 1 0 0 0;");
        due("the second MOVE would take", x.move(1, 1), 101);
        due("the first one does not", x.gale(1, 1, 1), NONE);
        due("none by east for SIDE 1, then the second is the first", x.gale(1, 60, 0), 3);
    }
}
