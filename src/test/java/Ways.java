/** Ways to states at the ends of what there is, so full of things that a change shows. */
final class Ways {
    static final int NONE = -4;

    private Ways() {
    }

    /** Pieces, steeples, odds, SEEN, TOLD, two other IMAGES, three SHEETS, a text on THE TAPE, a FAULT of each kind. */
    static void rich(WeatherChess x) {
        Check.tell(x, "piece king 0 0 9;piece king 1 8 7;piece runner 0 6 2;piece man 1 2 3;steeple 4;odds 1 2 0 3 1;");
        x.see(1, NONE);
        x.tell(3);
        x.keep(1);
        x.go(4, NONE);
        x.weigh(3, 5);
        x.oil(1, 6);
        x.put(3, 5);
        x.steeple(7, true);
        x.keep(0);
        for (int i = 0; i < 3; i++) x.go(4, NONE);
        x.forget(0);
        x.see(0, 0);
        x.see(4, NONE);
        x.see(8, 1);
        x.drop(0);
        x.tell(0);
        x.tell(4);
        x.weigh(3, 3);
        x.put(3, 2);
        x.steeple(7, false);
        x.sheet(0, 0, 6);
        Check.lay(x, 0, 4, NONE, 4, NONE);
        x.sheet(1, 1, 3);
        Check.lay(x, 1, 4, NONE);
        x.sheet(2, 2, 0);
        Check.tell(x, "?");
        x.read(3, 0, 0, 1);
        Check.feed(x, "turn 1;");
    }

    /** PIECE 0 has taken king 1 by the second TURN; an IMAGE is from ahead of it. */
    static void over(WeatherChess x) {
        Check.tell(x, "board 3 2;piece king 0 0 9;piece king 1 1 9;piece man 1 5 4;");
        x.see(1, 1);
        x.tell(1);
        x.keep(0);
        x.sheet(0, 0, 4);
        Check.lay(x, 0, 4, NONE, 4, NONE);
        x.go(4, NONE);
        x.turn(0);
        if (x.go(1, 0) != 1) throw new IllegalStateException("king not taken");
    }

    /** 999 TURNS went; king 0 could still take king 1 by an east wind. */
    static void last(WeatherChess x) {
        turns(x, 999);
    }

    /** 998 TURNS went; king 0 can take king 1 by an east wind. */
    static void lastButOne(WeatherChess x) {
        turns(x, 998);
    }

    /** So many TURNS, by calm; it is SIDE 0's TURN. */
    private static void turns(WeatherChess x, int turns) {
        Check.tell(x, "board 3 2;piece king 0 0 9;piece king 1 1 9;");
        calms(x, 13);
        for (int left = turns; left > 0; left -= 13) x.read(0, 0, 0, Math.min(left, 13));
        x.turn(0);
        if (x.rule(5) != turns) throw new IllegalStateException("turns " + x.rule(5));
    }

    /** The king is TAKEN by the 999th TURN. */
    static void overAndLast(WeatherChess x) {
        lastButOne(x);
        if (x.go(1, 0) != 1) throw new IllegalStateException("king not taken");
    }

    /** As much as there can be SEEN and TOLD, and on THE TAPE. */
    static void full(WeatherChess x) {
        Check.tell(x, "board 2 2;piece king 0 0 9;piece king 1 1 9;turn 0;");
        for (int i = 0; i < 8; i++) x.see(i % 4, i % 4 < 2 ? i % 4 : NONE);
        for (int i = 0; i < 3; i++) x.tell(1 + i);
        for (int i = 0; i < 40; i++) x.feed(0x2020202020202020L);
    }

    static void none(WeatherChess x) {
    }

    /** SHEET 0 of 40 BYTES, with so many TURNS by calm. */
    static void calms(WeatherChess x, int turns) {
        x.sheet(0, 0, 40);
        for (int i = 0; i < turns; i++) {
            x.lay(0, 2 * i, 4);
            x.lay(0, 2 * i + 1, NONE);
        }
    }
}
