/**
 * What is refused changes nothing (but THE TAPE, as told): each reason of each call, read off by the calls that show it.
 * Numbers beyond their ranges are refused in RangesTest. What only asks changes nothing either.
 */
public final class RefusedTest {
    private static final int BAD = -1, STATE = -2, FULL = -3, NONE = -4;

    private final Check check = new Check("RefusedTest");
    private final Twins twins = new Twins(check);

    public static void main(String[] args) {
        RefusedTest t = new RefusedTest();
        t.feed();
        t.text();
        t.changed();
        t.go();
        t.over();
        t.rows();
        t.noted();
        t.read();
        t.torn();
        t.asked();
        t.check.close();
    }

    private void keeps(String name, Twins.Way way, long due, Twins.Call call) {
        twins.keeps(name, way, call, due);
    }

    private void rich(String name, long due, Twins.Call call) {
        twins.keeps(name, Ways::rich, call, due);
    }

    // ---- 2
    private void feed() {
        check.says("FULL: more than 320.");
        keeps("feed at 320", Ways::full, FULL, x -> x.feed(0x7475726e20313b20L));
        for (int had = 313; had < 320; had++) {
            int n = had;
            Twins.Way way = x -> {
                Ways.full(x);
                x.end(n);
            };
            keeps("feed at " + n, way, FULL, x -> x.feed(0x7475726e20313b20L));
            check.due("it has still " + n, Twins.gone(x -> {
                way.go(x);
                x.feed(1);
            }).count(4), n);
        }
    }

    // ---- 4
    private void text() {
        check.says("-10 less the place of its FAULT: that which was told stays.");
        String ahead = "board 2 2;odds 5 5 5 5 5;turn 1;steeple 1;piece man 1 2 3;";
        int n = ahead.length();
        faulty(1, ahead + "?", n);
        faulty(2, ahead + "ring", n);
        faulty(2, ahead + "steeple", n + 7);
        faulty(3, ahead + "steeple 25;", n + 8);
        faulty(4, ahead + "turn", n);
        faulty(4, ahead + "board", n);
        faulty(6, ahead + "steeple 4;", n + 10);
        faulty(7, ahead, n);
        StringBuilder pieces = new StringBuilder(ahead);
        for (int p = 1; p < 6; p++) pieces.append("piece man 0 ").append(2 + p).append(" 1;");
        faulty(5, pieces + "piece", pieces.length());
        faulty(8, "board 2 2;odds 5 5 5 5 5;turn 1;steeple 0;", 42);
    }

    private void faulty(int fault, String text, int place) {
        Twins.Way way = x -> {
            Ways.rich(x);
            x.end(0);
        };
        twins.keepsButFaults("text by FAULT " + fault + " of " + text, way, x -> Check.tell(x, text), -10 - place);
        WeatherChess x = Twins.gone(way);
        Check.tell(x, text);
        check.due("fault of " + text, x.fault(), fault);
        check.due("THE TAPE is empty behind " + text, x.count(4), 0);
        check.due("torn() behind " + text, x.torn(), 1);
    }

    // ---- 11 to 13
    private void changed() {
        check.says("BAD: also a STEEPLE, another PIECE there.");
        rich("put on a STEEPLE", BAD, x -> x.put(0, 4));
        rich("put on a PIECE of the other SIDE", BAD, x -> x.put(0, 8));
        rich("put on a PIECE of the same SIDE", BAD, x -> x.put(0, 6));
        rich("put on the last PIECE", BAD, x -> x.put(0, 2));
        rich("put on the first PIECE", BAD, x -> x.put(3, 0));
        keeps("put one that is TAKEN on a PIECE", Ways::over, BAD, x -> x.put(1, 5));
        keeps("put one that is TAKEN on who took it", Ways::over, BAD, x -> x.put(1, 1));
        check.says("BAD: also a PIECE there.");
        for (int i : new int[] {0, 2, 6, 8}) {
            rich("steeple on a PIECE " + i, BAD, x -> x.steeple(i, true));
            rich("no steeple on a PIECE " + i, BAD, x -> x.steeple(i, false));
        }
        check.says("BAD: also if all would be 0.");
        for (int w = 0; w < 5; w++) {
            int only = w;
            Twins.Way way = x -> {
                x.weigh(only, 9);
                for (int v = 0; v < 5; v++) if (v != only) x.weigh(v, 0);
            };
            keeps("weigh the only one " + w, way, BAD, x -> x.weigh(only, 0));
            check.due("weigh the only one to 1", Twins.gone(way).weigh(w, 1), 9);
            check.due("weigh another one to 0", Twins.gone(way).weigh((w + 1) % 5, 0), 0);
        }
    }

    // ---- 17
    private void go() {
        check.says("BAD: no such WIND, MOVE, NONE where there are some; STATE: it is OVER; FULL: it would be the 1000th.");
        rich("go by no WIND", BAD, x -> x.go(5, 0));
        rich("go by no MOVE", BAD, x -> x.go(1, 3));
        rich("go by NONE where there are some", BAD, x -> x.go(1, NONE));
        rich("go by a MOVE where there are none", BAD, x -> x.go(3, 0));
        for (int w = 0; w < 5; w++) {
            int wind = w;
            keeps("go when it is OVER " + w, Ways::over, STATE, x -> x.go(wind, NONE));
            keeps("go when it is OVER, no MOVE " + w, Ways::over, BAD, x -> x.go(wind, 0));
        }
        keeps("go the 1000th", Ways::last, FULL, x -> x.go(4, NONE));
        keeps("go the 1000th, taking the king", Ways::last, FULL, x -> x.go(1, 0));
        WeatherChess x = Twins.gone(Ways::lastButOne);
        check.due("go the 999th", x.go(1, 0), 1);
        check.due("turns", x.rule(5), 999);
        check.due("lost", x.rule(6), 1);
    }

    // ---- 17 to 29
    private void over() {
        check.says("STATE: it is OVER.");
        for (int w = 0; w < 5; w++) {
            int wind = w;
            for (int n = 1; n < 4; n++) {
                int turns = n;
                keeps("byWind", Ways::over, STATE, x -> x.byWind(wind, turns, 0));
                keeps("best", Ways::over, STATE, x -> x.best(wind, turns));
            }
        }
        keeps("byWind, the denominator", Ways::over, STATE, x -> x.byWind(0, 1, 1));
        for (int n = 1; n < 4; n++) {
            int turns = n;
            keeps("hope", Ways::over, STATE, x -> x.hope(turns));
        }
        for (int what : new int[] {0, 10, 11, 12}) keeps("blow", Ways::over, STATE, x -> x.blow(what));
    }

    // ---- 20, 22, 29, 32
    private void rows() {
        check.says("STATE: there is no such IMAGE");
        for (int what : new int[] {0, 10, 11, 12}) {
            keeps("since no IMAGE", Ways::none, STATE, x -> x.since(0, 0, what));
            keeps("since no IMAGE 1", Ways::over, STATE, x -> x.since(1, 3, what));
        }
        check.says("All is as IMAGE k: TURNS. BAD; STATE: there is none.");
        keeps("back to none", Ways::none, STATE, x -> x.back(0));
        keeps("back to none", Ways::over, STATE, x -> x.back(1));
        check.says("NONE (10 and i): none, not so many.");
        rich("since, none", NONE, x -> x.since(1, 0, 10));
        rich("since, not so many", NONE, x -> x.since(0, 1, 11));
        check.says("NONE: there are none.");
        rich("best, none", NONE, x -> x.best(3, 2));
        rich("best by calm", NONE, x -> x.best(4, 3));
        check.says("NONE: it can not be; 10 and i: not so many.");
        rich("blow, not so many", NONE, x -> x.blow(12));
        keeps("blow, nothing TOLD", Ways::none, NONE, x -> x.blow(0));
        keeps("blow, nothing TOLD", Ways::none, NONE, x -> x.blow(10));
    }

    // ---- 23, 27
    private void noted() {
        check.says("SEEN: .. BAD; FULL.");
        for (int i = 0; i < 4; i++) {
            int square = i;
            for (int side : new int[] {0, 1, NONE}) keeps("see", Ways::full, FULL, x -> x.see(square, side));
        }
        check.says("TOLD: .. BAD; FULL.");
        for (int w = 0; w < 5; w++) {
            int wind = w;
            keeps("tell", Ways::full, FULL, x -> x.tell(wind));
        }
    }

    private void reads(String name, Twins.Way way, int due, int n, int... cells) {
        Twins.Way laid = x -> {
            way.go(x);
            x.sheet(0, 2, 26);
            Check.lay(x, 0, cells);
        };
        keeps(name, laid, due, x -> x.read(0, 2, 0, n));
    }

    // ---- 35
    private void read() {
        check.says("-20 less i (from 0 on): TURN i, whole, is refused by go() (BAD, STATE, FULL): then none goes");
        reads("no WIND -1", Ways::rich, -20, 1, -1, 0);
        reads("no WIND 5", Ways::rich, -20, 1, 5, NONE);
        reads("no MOVE", Ways::rich, -20, 1, 1, 3);
        reads("NONE where there are some", Ways::rich, -20, 1, 1, NONE);
        reads("a MOVE where there are none", Ways::rich, -20, 1, 4, 0);
        reads("the second", Ways::rich, -21, 2, 0, 0, 0, 9);
        reads("the third", Ways::rich, -22, 3, 0, 0, 4, NONE, 6, NONE);
        reads("behind one that takes", Ways::rich, -23, 4, 4, NONE, 0, 0, 4, NONE, 4, 0);
        int[] cells = new int[26];
        for (int i = 0; i < 26; i++) cells[i] = i % 2 == 0 ? 4 : NONE;
        cells[25] = 0;
        reads("the thirteenth", Ways::rich, -32, 13, cells);
        reads("OVER", Ways::over, -20, 1, 4, NONE);
        reads("OVER on the way", Ways::rich, -21, 2, 1, 2, 4, NONE);
        reads("OVER on the way, then no MOVE", Ways::rich, -21, 2, 1, 2, 1, 0);
        reads("the 1000th", Ways::last, -20, 1, 4, NONE);
        reads("the 1000th, two", Ways::last, -20, 2, 4, NONE, 4, NONE);
        reads("the 1000th on the way", Ways::lastButOne, -21, 3, 4, NONE, 4, NONE, 4, NONE);
    }

    // ---- 35, 36
    private void torn() {
        check.says("What the machine refuses: those that were whole ahead go (its FAULT is asked by torn() ..)");
        reading("NULL", 1, x -> x.read(3, 0, 0, 13));
        reading("CAST", 3, x -> x.read(0, 1, 0, 1));
        reading("CAST, the first lane", 3, x -> x.read(1, 0, 0, 1));
        reading("CAST, the last lane", 3, x -> x.read(0, 2, 0, 13));
        reading("CAST of no CELLS", 3, x -> x.read(2, 1, 0, 1));
        reading("INDEX of no CELLS", 2, x -> x.read(2, 2, 0, 1));
        reading("INDEX below", 2, x -> x.read(0, 0, -1, 3));
        reading("INDEX far below", 2, x -> x.read(0, 0, Integer.MIN_VALUE, 3));
        reading("INDEX behind", 2, x -> x.read(0, 0, 6, 1));
        reading("INDEX far behind", 2, x -> x.read(0, 0, Integer.MAX_VALUE, 13));
        reading("INDEX of a half one", 2, x -> x.read(0, 0, 5, 1));
        reading("of none", 0, x -> x.read(3, 2, -7, 0));
    }

    private void reading(String name, int torn, Twins.Call call) {
        twins.keepsButFaults("read by " + name, Ways::rich, call, 0);
        WeatherChess x = Twins.gone(Ways::rich);
        call.of(x);
        check.due("torn of " + name, x.torn(), torn);
    }

    private void asked() {
        check.says("which moves a wind gives .. by odds of gales how likely .. (what only asks)");
        asks(Ways::rich, 0);
        asks(Ways::over, 1);
        asks(Ways::full, 0);
        check.says("By itself (as it would be; nothing is changed)");
        for (int n : new int[] {1, 2, 60}) {
            for (int what = 0; what < 2; what++) {
                int part = what;
                keeps("gale", Ways::rich, Twins.gone(Ways::rich).gale(11, n, part), x -> x.gale(11, n, part));
            }
        }
    }

    private void asks(Twins.Way way, int due) {
        keeps("rows and odds", way, due, x -> {
            for (int n = 0; n < 4; n++) {
                for (int side = 0; side < 2; side++) x.chance(side, n, 1);
                for (int w = 0; w < 5; w++) {
                    x.byWind(w, n, 0);
                    x.best(w, n);
                }
                x.hope(n);
                x.since(0, n, 10);
                x.fits(n);
                x.where(0, n);
            }
            for (int what = 0; what < 13; what++) x.blow(what);
            return x.rule(4);
        });
        keeps("what is shown", way, due, x -> {
            for (int i = 0; i < 9; i++) {
                x.square(i);
                x.rule(i);
                x.count(i);
                x.odd(i);
                x.moves(i);
                x.move(i, 0);
                x.piece(i, 2);
            }
            x.fault();
            x.torn();
            return x.rule(4);
        });
    }
}
