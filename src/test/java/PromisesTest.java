/** Every promise of the document by its number: ordinary inputs, the edges that it names, wrong inputs. */
public final class PromisesTest {
    private static final int BAD = -1, STATE = -2, FULL = -3, NONE = -4;
    private static final int FAR = Integer.MAX_VALUE, DEEP = Integer.MIN_VALUE;

    private final Check check = new Check("PromisesTest");

    public static void main(String[] args) {
        PromisesTest t = new PromisesTest();
        t.newObject();
        t.feed();
        t.end();
        t.text();
        t.textBounds();
        t.textPlaces();
        t.fault();
        t.rule();
        t.square();
        t.piece();
        t.odd();
        t.oil();
        t.put();
        t.steeple();
        t.weigh();
        t.turn();
        t.moves();
        t.move();
        t.go();
        t.goHome();
        t.goOil();
        t.goFull();
        t.chance();
        t.chanceOfChoice();
        t.byWind();
        t.best();
        t.hope();
        t.since();
        t.sinceElse();
        t.see();
        t.forget();
        t.fits();
        t.where();
        t.tell();
        t.drop();
        t.blow();
        t.gale();
        t.keep();
        t.back();
        t.sheet();
        t.lay();
        t.read();
        t.readRefused();
        t.torn();
        t.count();
        t.check.close();
    }

    private void due(String call, long got, long want) {
        check.due(call, got, want);
    }

    private static WeatherChess told(String text) {
        return Check.told(text);
    }

    /** Side 1's king has been TAKEN by PIECE 0, after one TURN. */
    private static WeatherChess over() {
        WeatherChess x = told("board 3 2;piece king 0 0 9;piece king 1 1 9;piece man 1 5 4;");
        if (x.go(1, 0) != 1) throw new IllegalStateException("king not taken");
        return x;
    }

    // ---- 1
    private void newObject() {
        WeatherChess x = new WeatherChess();
        int[] rules = {3, 3, 2, 0, 0, 0, NONE};
        for (int i = 0; i < rules.length; i++) due("1 rule " + i, x.rule(i), rules[i]);
        int[][] pieces = {{0, 0, 0, 9}, {1, 0, 8, 9}};
        for (int p = 0; p < 2; p++) for (int i = 0; i < 4; i++) due("1 piece", x.piece(p, i), pieces[p][i]);
        for (int w = 0; w < 5; w++) due("1 odd", x.odd(w), 1);
        for (int k = 0; k < 4; k++) due("1 lay", x.lay(k, 0, 0), -11);
        int[] counts = {2, 0, 0, 0, 0, NONE, 18};
        for (int i = 0; i < counts.length; i++) due("1 count " + i, x.count(i), counts[i]);
        due("1 fault", x.fault(), 0);
        due("1 torn", x.torn(), 0);
        due("1 BAD", WeatherChess.BAD, BAD);
        due("1 STATE", WeatherChess.STATE, STATE);
        due("1 FULL", WeatherChess.FULL, FULL);
        due("1 NONE", WeatherChess.NONE, NONE);
    }

    // ---- 2
    private void feed() {
        WeatherChess x = new WeatherChess();
        for (int i = 1; i <= 40; i++) due("2 feed", x.feed(0x2020202020202020L), 8 * i);
        due("2 feed beyond", x.feed(0), FULL);
        due("2 it stays", x.count(4), 320);
        due("2 all blanks", x.text(), 0);
        for (int i = 1; i <= 40; i++) x.feed(0);
        x.end(313);
        due("2 feed at 313", x.feed(0), FULL);
        x.end(312);
        due("2 feed at 312", x.feed(0), 320);
        x.end(0);
        // "turn 1; ", the highest byte first
        due("2 feed turn", x.feed(0x7475726e20313b20L), 8);
        due("2 text", x.text(), 1);
        due("2 turn", x.rule(4), 1);
        due("2 feed behind a text", x.feed(-1), 8);
    }

    // ---- 3
    private void end() {
        WeatherChess x = new WeatherChess();
        due("3 end of nothing", x.end(0), 0);
        due("3 above", x.end(1), BAD);
        due("3 below", x.end(-1), BAD);
        x.feed(0x7475726e20313b78L);
        due("3 above", x.end(9), BAD);
        due("3 far", x.end(FAR), BAD);
        due("3 deep", x.end(DEEP), BAD);
        due("3 refused keeps", x.count(4), 8);
        due("3 the same", x.end(8), 8);
        due("3 first seven", x.end(7), 8);
        due("3 now seven", x.count(4), 7);
        due("3 text", x.text(), 1);
        due("3 turn", x.rule(4), 1);
        x.feed(0x7475726e20313b20L);
        x.end(5);
        x.feed(0x303b202020202020L);
        due("3 behind the end", x.count(4), 13);
        due("3 text", x.text(), 1);
        due("3 turn", x.rule(4), 0);
    }

    // ---- 4
    private void text() {
        WeatherChess x = new WeatherChess();
        due("4 text", Check.tell(x, "board 4 3;piece man 1 5 2;piece king 1 11 0;piece king 0 2 7;"
            + "piece sparrow 0 0 9;steeple 1;steeple 10;odds 0 9 2 0 3;turn 1;"), 9);
        int[] rules = {4, 3, 4, 1 << 1 | 1 << 10, 1, 0, NONE};
        for (int i = 0; i < rules.length; i++) due("4 rule " + i, x.rule(i), rules[i]);
        int[][] pieces = {{1, 1, 5, 2}, {1, 0, 11, 0}, {0, 0, 2, 7}, {0, 3, 0, 9}};
        for (int p = 0; p < 4; p++) for (int i = 0; i < 4; i++) due("4 piece", x.piece(p, i), pieces[p][i]);
        int[] odds = {0, 9, 2, 0, 3};
        for (int w = 0; w < 5; w++) due("4 odd", x.odd(w), odds[w]);
        due("4 the tape is empty", x.count(4), 0);

        x.sheet(0, 2, 7);
        x.keep(0);
        x.keep(1);
        x.see(0, 0);
        x.tell(3);
        x.go(4, NONE);
        due("4 a fault", Check.tell(x, "board 2 2;turn 2;"), -25);
        due("4 the tape is empty by a fault", x.count(4), 0);
        due("4 what was told stays", x.rule(0), 4);
        due("4 turns stay", x.rule(5), 1);
        due("4 images stay", x.count(3), 2);
        due("4 seen stays", x.count(1), 1);
        due("4 told stays", x.count(2), 1);

        due("4 empty text", x.text(), 0);
        int[] first = {3, 3, 2, 0, 0, 0, NONE};
        for (int i = 0; i < first.length; i++) due("4 as at first " + i, x.rule(i), first[i]);
        for (int w = 0; w < 5; w++) due("4 odd as at first", x.odd(w), 1);
        due("4 seen", x.count(1), 0);
        due("4 told", x.count(2), 0);
        due("4 images are gone", x.count(3), 0);
        due("4 no image", x.back(0), STATE);
        due("4 sheets stay", x.count(5), 7);

        due("4 blanks", Check.tell(x, "   board   5   2  ;;".replace(";;", ";") + "   "), 1);
        due("4 the last one", x.piece(1, 2), 9);
        due("4 no blanks", Check.tell(x, "board2 3;turn1;steeple03;"), 3);
        due("4 all lines again", Check.tell(x, "odds 1 2 3 4 5;board 2 2;turn 1;"), 3);
        due("4 all lines again", Check.tell(x, "turn 1;board2 3;odds 1 2 3 4 5;steeple 3;"), 4);
        due("4 high", x.rule(1), 3);
        due("4 steeple", x.rule(3), 8);
        due("4 kings alone", Check.tell(x, "piece king 1 0 1;piece king 0 1 1;"), 2);
        due("4 pieces in their order", x.piece(0, 0), 1);
        due("4 board behind pieces", Check.tell(x, "piece king 0 24 1;piece king 1 15 1;board 5 5;"), 3);
        due("4 six pieces", Check.tell(x, "piece king 0 0 1;piece king 1 1 1;piece man 0 2 1;"
            + "piece man 0 3 1;piece man 0 4 1;piece runner 1 5 1;"), 6);
    }

    private void faultOf(String text, int fault, int place) {
        WeatherChess x = new WeatherChess();
        due("5 text " + text, Check.tell(x, text), fault == 0 ? place : -10 - place);
        due("5 fault of " + text, x.fault(), fault);
    }

    /** Bounds of NUMBERS, and the order in which FAULTS are met. */
    private void textBounds() {
        faultOf("board 2 5;", 0, 1);
        faultOf("board 1 5;", 3, 6);
        faultOf("board 6 5;", 3, 6);
        faultOf("board 2 1;", 3, 8);
        faultOf("board 2 6;", 3, 8);
        faultOf("board 9 ?", 3, 6);
        faultOf("board 05 02;", 0, 1);
        faultOf("steeple 25;", 3, 8);
        faultOf("board 5 5;steeple 23;", 0, 2);
        faultOf("piece king 2 0 0;", 3, 11);
        faultOf("piece king 0 25 0;", 3, 13);
        faultOf("piece king 0 0 10;", 3, 15);
        faultOf("odds 9 9 9 9 10;", 3, 13);
        faultOf("odds 0 0 0 0 0;", 3, 13);
        faultOf("odds 0 0 0 0 0 0", 3, 13);
        faultOf("odds 0 0 0 0 1;", 0, 1);
        faultOf("odds 1 0 0 0 0;", 0, 1);
        faultOf("turn 2;", 3, 5);
        faultOf("turn 1;", 0, 1);
    }

    private void textPlaces() {
        faultOf("board 123 2;", 1, 6);
        faultOf("  Board", 1, 2);
        faultOf("turn 1.", 1, 6);
        faultOf("turn 1;\t", 1, 7);
        faultOf("turn 1;\u00e9", 1, 7);
        faultOf("turn -1;", 1, 5);
        faultOf("turn\u00001;", 1, 4);
        faultOf("turn 001;", 1, 5);
        faultOf("123", 1, 0);
        faultOf(";", 2, 0);
        faultOf("12", 2, 0);
        faultOf("turn 1;;", 2, 7);
        faultOf("boards 2 2;", 2, 0);
        faultOf("hoard 2 2;", 2, 0);
        faultOf("boare 2 2;", 2, 0);
        faultOf("piece ring 0 0 0;", 2, 6);
        faultOf("piece kin 0 0 0;", 2, 6);
        faultOf("a", 2, 0);
        faultOf("z", 2, 0);
        faultOf("`", 1, 0);
        faultOf("{", 1, 0);
        faultOf("/", 1, 0);
        faultOf(":", 1, 0);
        faultOf("<", 1, 0);
        faultOf("09", 2, 0);
        faultOf("90", 2, 0);
        faultOf("az!", 2, 0);
        faultOf(" king 0 0 0;", 2, 1);
        faultOf("piece lord 0 0 0;", 2, 6);
        faultOf("piece 0 0 0;", 2, 6);
        faultOf("piece turn 0 0 0;", 2, 6);
        faultOf("pieceking 0 0 0;", 2, 0);
        faultOf("board 2;", 2, 7);
        faultOf("board 2 2 2;", 2, 10);
        faultOf("board 2 two;", 2, 8);
        faultOf("board", 2, 5);
        faultOf("board 2 2", 2, 9);
        faultOf("board 2 2   ", 2, 12);
        faultOf("turn 1;turn 1;", 4, 7);
        faultOf("turn 1; turn", 4, 8);
        faultOf("board 2 2;board 9", 4, 10);
        faultOf("odds 1 1 1 1 1;odds", 4, 15);
        faultOf("steeple 1;steeple 1;", 4, 18);
        faultOf("piece king 0 1 1;steeple 1;", 4, 25);
        faultOf("steeple 3;piece king 0 3 99;", 4, 23);
        faultOf("piece king 0 1 1;piece man 1 1 99;", 4, 29);
        String six = "piece man 0 0 1;piece man 0 1 1;piece man 0 2 1;piece man 0 3 1;piece man 0 4 1;piece man 0 5 1;";
        faultOf(six + " piece", 5, 97);
        faultOf(six, 7, 96);
        faultOf("steeple 9;", 6, 10);
        faultOf("steeple 9;board 5 2;", 8, 20);
        faultOf("steeple 8;board 5 2;", 0, 2);
        faultOf("piece king 0 9 1; ", 6, 18);
        faultOf("board 2 2;piece king 0 0 1;piece king 1 4 1;", 6, 44);
        faultOf("piece king 0 0 1; ", 7, 18);
        faultOf("piece king 0 0 1;piece king 0 1 1;piece king 1 2 1;", 7, 51);
        faultOf("piece king 0 0 1;piece king 1 1 1;piece king 1 2 1;", 7, 51);
        faultOf("piece man 0 0 1;", 7, 16);
        faultOf("steeple 0;", 8, 10);
        faultOf("steeple 8; ", 8, 11);
        faultOf("steeple 3;board 2 2;", 8, 20);
        faultOf("steeple 4;", 0, 1);
        faultOf("steeple 0;piece king 0 1 1;piece king 1 2 1;", 0, 3);
    }

    // ---- 5
    private void fault() {
        WeatherChess x = new WeatherChess();
        due("5 at first", x.fault(), 0);
        Check.tell(x, "?");
        due("5 the latest", x.fault(), 1);
        Check.tell(x, "turn 5;");
        due("5 the latest", x.fault(), 3);
        due("5 asked again", x.fault(), 3);
        Check.tell(x, "turn 0;");
        due("5 none", x.fault(), 0);
    }

    // ---- 6
    private void rule() {
        WeatherChess x = told("board 5 2;steeple 4;turn 1;");
        due("6 wide", x.rule(0), 5);
        due("6 high", x.rule(1), 2);
        due("6 pieces", x.rule(2), 2);
        due("6 steeples", x.rule(3), 16);
        due("6 turn", x.rule(4), 1);
        due("6 turns", x.rule(5), 0);
        due("6 lost", x.rule(6), NONE);
        for (int what : new int[] {-1, 7, FAR, DEEP}) due("6 bad", x.rule(what), BAD);
        x = over();
        due("6 pieces, one TAKEN", x.rule(2), 3);
        due("6 turn", x.rule(4), 1);
        due("6 turns", x.rule(5), 1);
        due("6 lost", x.rule(6), 1);
        x.put(1, 4);
        due("6 lost no more", x.rule(6), NONE);
    }

    // ---- 7
    private void square() {
        WeatherChess x = told("board 2 3;steeple 2;");
        due("7 king", x.square(0), 0);
        due("7 king", x.square(5), 1);
        due("7 steeple", x.square(2), NONE);
        due("7 nobody", x.square(1), NONE);
        for (int i : new int[] {-1, 6, FAR, DEEP}) due("7 bad", x.square(i), BAD);
        x = over();
        due("7 who took", x.square(1), 0);
        due("7 left behind", x.square(0), NONE);
    }

    // ---- 8
    private void piece() {
        WeatherChess x = over();
        int[][] pieces = {{0, 0, 1, 9}, {1, 0, NONE, 9}, {1, 1, 5, 4}};
        for (int p = 0; p < 3; p++) for (int i = 0; i < 4; i++) due("8 piece", x.piece(p, i), pieces[p][i]);
        for (int p : new int[] {-1, 3, 6, FAR, DEEP}) due("8 bad", x.piece(p, 0), BAD);
        for (int what : new int[] {-1, 4, FAR, DEEP}) due("8 bad", x.piece(0, what), BAD);
    }

    // ---- 9
    private void odd() {
        WeatherChess x = told("odds 1 2 3 4 5;");
        for (int w = 0; w < 5; w++) due("9 odd", x.odd(w), w + 1);
        for (int w : new int[] {-1, 5, FAR, DEEP}) due("9 bad", x.odd(w), BAD);
    }

    // ---- 10
    private void oil() {
        WeatherChess x = over();
        due("10 oil", x.oil(2, 0), 4);
        due("10 oil", x.oil(2, 9), 0);
        due("10 of one that is TAKEN", x.oil(1, 3), 9);
        due("10 now", x.piece(1, 3), 3);
        for (int p : new int[] {-1, 3, FAR, DEEP}) due("10 bad", x.oil(p, 1), BAD);
        for (int v : new int[] {-1, 10, FAR, DEEP}) due("10 bad", x.oil(0, v), BAD);
        due("10 refused changes nothing", x.piece(0, 3), 9);
        x = new WeatherChess();
        x.oil(0, 0);
        due("10 no oil, no moves", x.moves(1), 0);
        x.oil(0, 1);
        due("10 oil again", x.moves(1), 1);
    }

    // ---- 11
    private void put() {
        WeatherChess x = over();
        x.steeple(3, true);
        due("11 steeple there", x.put(0, 3), BAD);
        due("11 another there", x.put(0, 5), BAD);
        due("11 no square", x.put(0, 6), BAD);
        due("11 no square", x.put(0, -1), BAD);
        due("11 no piece", x.put(3, 0), BAD);
        due("11 no piece", x.put(-1, 0), BAD);
        due("11 it stays", x.piece(0, 2), 1);
        due("11 where it is", x.put(0, 1), 1);
        due("11 elsewhere", x.put(0, 2), 1);
        due("11 nobody there now", x.square(1), NONE);
        due("11 one that was TAKEN", x.put(1, 1), NONE);
        due("11 it stands again", x.square(1), 1);
        due("11 it is not over", x.rule(6), NONE);
        due("11 there are moves", x.moves(3), 2);
    }

    // ---- 12
    private void steeple() {
        WeatherChess x = new WeatherChess();
        due("12 new", x.steeple(1, true), 0);
        due("12 again", x.steeple(1, true), 1);
        due("12 bits", x.rule(3), 2);
        due("12 no move there", x.moves(1), 0);
        due("12 none", x.steeple(1, false), 1);
        due("12 none again", x.steeple(1, false), 0);
        due("12 bits", x.rule(3), 0);
        due("12 a piece there", x.steeple(0, true), BAD);
        due("12 a piece there", x.steeple(8, false), BAD);
        for (int i : new int[] {-1, 9, FAR, DEEP}) due("12 bad", x.steeple(i, true), BAD);
        due("12 refused changes nothing", x.rule(3), 0);
    }

    // ---- 13
    private void weigh() {
        WeatherChess x = new WeatherChess();
        due("13 weigh", x.weigh(2, 9), 1);
        due("13 weigh", x.weigh(2, 0), 9);
        due("13 now", x.odd(2), 0);
        for (int w : new int[] {-1, 5, FAR, DEEP}) due("13 bad", x.weigh(w, 1), BAD);
        for (int v : new int[] {-1, 10, FAR, DEEP}) due("13 bad", x.weigh(0, v), BAD);
        for (int w : new int[] {0, 1, 3}) due("13 none", x.weigh(w, 0), 1);
        due("13 all would be 0", x.weigh(4, 0), BAD);
        due("13 it stays", x.odd(4), 1);
        due("13 0 again", x.weigh(0, 0), 0);
        due("13 the last one", x.weigh(4, 5), 1);
    }

    // ---- 14
    private void turn() {
        WeatherChess x = new WeatherChess();
        due("14 turn", x.turn(1), 0);
        due("14 turn", x.turn(1), 1);
        due("14 turn", x.rule(4), 1);
        due("14 moves of the other side", x.move(0, 0), 105);
        due("14 turns stay", x.rule(5), 0);
        for (int side : new int[] {-1, 2, NONE, FAR, DEEP}) due("14 bad", x.turn(side), BAD);
        due("14 it stays", x.rule(4), 1);
        due("14 when it is over", over().turn(0), 1);
    }

    private static final String ROOFS = "board 5 5;piece runner 0 12 3;piece sparrow 0 6 3;piece king 0 0 3;"
        + "piece king 1 24 3;piece man 1 14 3;steeple 2;";

    // ---- 15
    private void moves() {
        WeatherChess x = told(ROOFS);
        int[] due = {1, 5, 5, 2, 0};
        for (int w = 0; w < 5; w++) due("15 moves " + w, x.moves(w), due[w]);
        for (int w : new int[] {-1, 5, FAR, DEEP}) due("15 bad", x.moves(w), BAD);
        x.oil(0, 0);
        due("15 without oil", x.moves(3), 0);
        due("15 when it is over", over().moves(3), 0);
    }

    private void list(String name, WeatherChess x, int w, int... moves) {
        due(name + " how many", x.moves(w), moves.length);
        for (int k = 0; k < moves.length; k++) due(name + " " + k, x.move(w, k), moves[k]);
        due(name + " behind the last", x.move(w, moves.length), BAD);
        due(name + " ahead of the first", x.move(w, -1), BAD);
    }

    // ---- 16
    private void move() {
        WeatherChess x = told(ROOFS);
        list("16 north", x, 0, 7);
        list("16 east", x, 1, 13, 14, 103, 113, 201);
        list("16 south", x, 2, 17, 22, 115, 117, 205);
        // the sparrow's own king stands in no way of it, but own pieces close squares
        x.put(2, 5);
        list("16 south, king aside", x, 2, 17, 22, 115, 117, 210);
        x.put(2, 17);
        list("16 south, own king ahead", x, 2, 115, 222);
        x.put(2, 0);
        list("16 west", x, 3, 10, 11);
        x.put(4, 15);
        list("16 south, a man of the other side", x, 2, 17, 22, 115, 117, 205);
        x.steeple(17, true);
        list("16 south, a steeple ahead", x, 2, 115, 205);
        list("16 calm", x, 4);
        x.turn(1);
        list("16 the man north", x, 0, 319, 410);
        for (int w : new int[] {-1, 5, FAR, DEEP}) due("16 bad", x.move(w, 0), BAD);
        due("16 bad", x.move(0, FAR), BAD);
        due("16 bad", x.move(0, DEEP), BAD);
        due("16 NONE is no move", x.move(4, NONE), BAD);
        x = told("board 5 5;piece sparrow 0 12 1;piece king 0 5 1;piece king 1 4 1;");
        list("16 sparrow north", x, 0, 1, 3, 100);
        list("16 sparrow east", x, 1, 9, 19, 106);
        list("16 sparrow south", x, 2, 21, 23, 110);
        list("16 sparrow west, one is the own king's", x, 3, 15);
        x.put(0, 4 + 5);
        list("16 sparrow at the edge", x, 1, 106);
        list("16 sparrow at the edge", x, 0, 100);
        list("16 sparrow at the edge", x, 2, 18, 110);
        list("16 sparrow at the edge", x, 3, 2, 12);
        x = told("board 5 5;piece runner 0 10 1;piece king 0 20 1;piece king 1 12 1;piece runner 1 2 1;");
        list("16 the other side's piece is an end", x, 1, 11, 12, 121);
        x.turn(1);
        list("16 so it is for the other side", x, 3, 211, 300, 301);
        x.put(1, 7);
        list("16 and to the south", x, 2, 217, 307);
    }

    // ---- 17
    private void go() {
        WeatherChess x = told(ROOFS);
        due("17 no wind", x.go(-1, 0), BAD);
        due("17 no wind", x.go(5, NONE), BAD);
        due("17 no move", x.go(0, 1), BAD);
        due("17 no move", x.go(0, -1), BAD);
        due("17 NONE where there are some", x.go(0, NONE), BAD);
        due("17 a move by calm", x.go(4, 0), BAD);
        due("17 refused changes nothing", x.rule(5), 0);
        due("17 takes the man", x.go(1, 1), 4);
        due("17 it is TAKEN", x.piece(4, 2), NONE);
        due("17 it moved", x.piece(0, 2), 14);
        due("17 turn", x.rule(4), 1);
        due("17 turns", x.rule(5), 1);
        due("17 none by calm", x.go(4, NONE), NONE);
        due("17 no piece moved", x.piece(0, 2), 14);
        due("17 nobody is TAKEN", x.go(3, 0), NONE);
        due("17 the other side's turn", x.turn(0), 1);
        x.put(3, 20);
        due("17 the king", x.go(2, 1), 3);
        due("17 lost", x.rule(6), 1);
        due("17 turn is the other side's", x.rule(4), 1);
        due("17 over", x.go(0, NONE), STATE);
        due("17 over, by calm", x.go(4, NONE), STATE);
        due("17 over, no such move", x.go(0, 0), BAD);
        due("17 over, no such wind", x.go(5, NONE), BAD);
        due("17 turns", x.rule(5), 4);
    }

    /** PIECE 0 to SQUARE 0: a MOVE whose number by move() is 0. */
    private void goHome() {
        WeatherChess x = told("piece king 0 1 9;piece king 1 8 9;piece man 1 0 9;");
        due("16 piece 0, square 0", x.move(3, 0), 0);
        due("17 takes on square 0", x.go(3, 0), 2);
        due("17 it is there", x.square(0), 0);
        due("17 it is not here", x.square(1), NONE);
        due("17 it moved, so that its oil stays", x.piece(0, 3), 9);
    }

    private void goOil() {
        WeatherChess x = told("board 3 3;piece king 0 0 2;piece man 0 2 1;piece man 0 1 0;piece king 1 8 5;piece man 1 7 5;");
        due("17 south, the king", x.go(2, 0), NONE);
        int[] oils = {2, 0, 0, 5, 5};
        for (int p = 0; p < 5; p++) due("17 oil " + p, x.piece(p, 3), oils[p]);
        due("17 calm", x.go(4, NONE), NONE);
        for (int p = 0; p < 5; p++) due("17 oil by calm " + p, x.piece(p, 3), oils[p]);
        due("17 nobody can", x.go(3, NONE), NONE);
        oils = new int[] {1, 0, 0, 5, 5};
        for (int p = 0; p < 5; p++) due("17 oil when nobody can " + p, x.piece(p, 3), oils[p]);
        x.put(0, 4);
        x.put(1, 5);
        due("17 takes a man", x.go(0, 0), 1);
        oils = new int[] {1, 0, 0, 5, 4};
        for (int p = 0; p < 5; p++) due("17 oil " + p, x.piece(p, 3), oils[p]);
        x.oil(1, 6);
        due("17 one turn more", x.go(1, 0), 3);
        due("17 one that is TAKEN keeps its oil", x.piece(1, 3), 6);
    }

    private void goFull() {
        WeatherChess x = new WeatherChess();
        Ways.calms(x, 13);
        for (int i = 0; i < 76; i++) due("17 thirteen", x.read(0, 0, 0, 13), 13);
        due("35 the 1000th in a sheet", x.read(0, 0, 0, 12), -31);
        due("35 none goes", x.rule(5), 988);
        due("17 eleven", x.read(0, 0, 0, 11), 11);
        due("17 turns", x.rule(5), 999);
        due("17 the 1000th", x.go(4, NONE), FULL);
        due("17 the 1000th", x.go(0, 0), FULL);
        due("17 no such move", x.go(0, 1), BAD);
        due("17 turns", x.rule(5), 999);
        due("30 by itself it goes on", x.gale(1, 7, 0), 7);
        due("25 rows go on", x.fits(1), 5);
        x.turn(0);
        x.put(0, 7);
        x.keep(0);
        due("35 full", x.read(0, 0, 0, 1), -20);
        due("31 turns are kept", x.back(0), 999);
    }

    private void fraction(String name, long top, long bottom, long wantTop, long wantBottom) {
        due(name + " top", top, wantTop);
        due(name + " bottom", bottom, wantBottom);
    }

    // ---- 18
    private void chance() {
        WeatherChess x = told("board 2 2;");
        fraction("18 in none", x.chance(0, 0, 0), x.chance(0, 0, 1), 0, 1);
        fraction("18 in one", x.chance(0, 1, 0), x.chance(0, 1, 1), 0, 1);
        fraction("18 0 in two", x.chance(0, 2, 0), x.chance(0, 2, 1), 0, 1);
        fraction("18 1 in two", x.chance(1, 2, 0), x.chance(1, 2, 1), 2, 25);
        fraction("18 0 in three", x.chance(0, 3, 0), x.chance(0, 3, 1), 12, 125);
        for (int side : new int[] {-1, 2, FAR, DEEP}) due("18 bad", x.chance(side, 0, 0), BAD);
        for (int n : new int[] {-1, 4, FAR, DEEP}) due("18 bad", x.chance(0, n, 0), BAD);
        for (int what : new int[] {-1, 2, FAR, DEEP}) due("18 bad", x.chance(0, 0, what), BAD);
        due("18 nothing is changed", x.rule(5), 0);
        x = over();
        for (int n = 0; n < 4; n++) {
            fraction("18 who took", x.chance(0, n, 0), x.chance(0, n, 1), 1, 1);
            fraction("18 who lost", x.chance(1, n, 0), x.chance(1, n, 1), 0, 1);
        }
        x = told("board 2 2;piece king 0 0 9;piece king 1 1 9;odds 3 6 1 1 1;");
        fraction("18 lowest terms", x.chance(0, 1, 0), x.chance(0, 1, 1), 1, 2);
        x.weigh(1, 0);
        fraction("18 no odds", x.chance(0, 1, 0), x.chance(0, 1, 1), 0, 1);
        x = told("board 2 2;piece king 0 0 9;piece king 1 1 9;odds 0 7 0 0 0;");
        fraction("18 sure", x.chance(0, 3, 0), x.chance(0, 3, 1), 1, 1);
    }

    /** The other SIDE's king comes into the runner's way only when its man can not move instead. */
    private void chanceOfChoice() {
        WeatherChess x = told("board 2 5;piece king 0 8 9;piece runner 0 9 9;piece king 1 2 9;piece man 1 4 9;"
            + "odds 1 1 0 0 0;turn 1;");
        fraction("18 the least", x.chance(0, 2, 0), x.chance(0, 2, 1), 0, 1);
        x.oil(3, 0);
        fraction("18 forced", x.chance(0, 2, 0), x.chance(0, 2, 1), 1, 4);
    }

    private static final String HUNT = "board 5 5;piece king 0 20 9;piece runner 0 0 9;piece king 1 24 9;odds 0 0 1 0 1;";

    // ---- 19
    private void byWind() {
        WeatherChess x = told("board 2 2;");
        fraction("19 north", x.byWind(0, 3, 0), x.byWind(0, 3, 1), 2, 25);
        fraction("19 east", x.byWind(1, 3, 0), x.byWind(1, 3, 1), 3, 25);
        fraction("19 calm", x.byWind(4, 3, 0), x.byWind(4, 3, 1), 2, 25);
        fraction("19 in two", x.byWind(1, 2, 0), x.byWind(1, 2, 1), 0, 1);
        for (int w : new int[] {-1, 5, FAR, DEEP}) due("19 bad", x.byWind(w, 1, 0), BAD);
        for (int n : new int[] {-1, 0, 4, FAR, DEEP}) due("19 bad", x.byWind(0, n, 0), BAD);
        for (int what : new int[] {-1, 2, FAR, DEEP}) due("19 bad", x.byWind(0, 1, what), BAD);
        x = told(HUNT);
        fraction("19 a wind without odds blows", x.byWind(1, 3, 0), x.byWind(1, 3, 1), 1, 2);
        x.put(2, 4);
        fraction("19 at once", x.byWind(1, 1, 0), x.byWind(1, 1, 1), 1, 1);
        fraction("19 not at once", x.byWind(2, 1, 0), x.byWind(2, 1, 1), 0, 1);
        x = over();
        due("19 over", x.byWind(0, 1, 0), STATE);
        due("19 over, bad", x.byWind(5, 1, 0), BAD);
        due("19 over, bad", x.byWind(0, 0, 0), BAD);
        due("19 over, bad", x.byWind(0, 1, 2), BAD);
    }

    // ---- 20
    private void best() {
        WeatherChess x = told(HUNT);
        due("20 east in three", x.best(1, 3), 4);
        due("20 east in one, the first of several", x.best(1, 1), 0);
        due("20 east in two, the first of several", x.best(1, 2), 0);
        due("20 none by calm", x.best(4, 3), NONE);
        for (int n = 1; n < 4; n++) due("20 the only one", new WeatherChess().best(1, n), 0);
        due("20 none", x.best(3, 3), NONE);
        for (int w : new int[] {-1, 5, FAR, DEEP}) due("20 bad", x.best(w, 1), BAD);
        for (int n : new int[] {-1, 0, 4, FAR, DEEP}) due("20 bad", x.best(0, n), BAD);
        x.put(2, 3);
        due("20 takes it at once", x.best(1, 1), 3);
        due("20 takes it at once", x.best(1, 3), 3);
        due("20 nothing is changed", x.rule(5), 0);
        x = over();
        due("20 over", x.best(0, 1), STATE);
        due("20 over, bad", x.best(0, 0), BAD);
    }

    // ---- 21
    private void hope() {
        WeatherChess x = told("board 2 2;");
        due("21 all alike", x.hope(1), 0);
        due("21 in three", x.hope(3), 1);
        for (int n : new int[] {-1, 0, 4, FAR, DEEP}) due("21 bad", x.hope(n), BAD);
        x.turn(1);
        due("21 of the other side", x.hope(3), 0);
        x = told(HUNT);
        due("21 a wind without odds", x.hope(3), 1);
        x = over();
        due("21 over", x.hope(1), STATE);
        due("21 over, bad", x.hope(0), BAD);
    }

    private void row(String name, WeatherChess x, int n, int count, int... turns) {
        due(name + " how many", x.since(0, n, 0), count);
        for (int i = 0; i < 3; i++) due(name + " turn " + i, x.since(0, n, 10 + i), i < turns.length ? turns[i] : NONE);
    }

    // ---- 22
    private void since() {
        WeatherChess x = new WeatherChess();
        due("22 no image", x.since(0, 0, 0), STATE);
        due("22 no image", x.since(1, 3, 12), STATE);
        due("22 no image, bad", x.since(0, 4, 0), BAD);
        x.keep(0);
        row("22 here", x, 0, 1);
        row("22 one turn", x, 1, 0);
        row("22 two calms", x, 2, 1, 499, 499);
        x.go(1, 0);
        row("22 none", x, 0, 0);
        row("22 one", x, 1, 1, 100);
        row("22 two", x, 2, 0);
        row("22 three", x, 3, 2, 100, 499, 499);
        for (int k : new int[] {-1, 2, FAR, DEEP}) due("22 bad", x.since(k, 0, 0), BAD);
        for (int n : new int[] {-1, 4, FAR, DEEP}) due("22 bad", x.since(0, n, 0), BAD);
        for (int what : new int[] {-1, 1, 9, 13, FAR, DEEP}) due("22 bad", x.since(0, 0, what), BAD);
        due("22 the other image", x.since(1, 1, 0), STATE);
        x.turn(0);
        row("22 another turn", x, 1, 0);
        x.turn(1);
        x.oil(0, 8);
        row("22 another oil", x, 1, 0);
        x.oil(0, 9);
        x.oil(1, 8);
        row("22 another oil", x, 1, 0);
        due("22 nothing is changed", x.rule(5), 1);
    }

    /** An IMAGE gives PIECES and TURN alone: STEEPLES are as now, also where a PIECE of the IMAGE stands. */
    private void sinceElse() {
        WeatherChess x = new WeatherChess();
        x.keep(0);
        x.go(1, 0);
        x.steeple(0, true);
        row("22 a steeple behind it", x, 1, 1, 100);
        x.steeple(0, false);
        x.put(0, 2);
        x.steeple(1, true);
        row("22 no way", x, 3, 0);
        x.steeple(1, false);
        row("22 a way", x, 3, 1, 100, 499, 100);
        x = told("board 2 2;piece king 0 0 9;piece king 1 1 9;piece man 1 3 5;");
        x.keep(0);
        x.go(1, 0);
        row("22 a king is TAKEN", x, 1, 1, 100);
        x.oil(1, 7);
        row("22 oil of one that is TAKEN", x, 1, 0);
        x.oil(1, 9);
        row("22 a king is TAKEN at last", x, 3, 1, 499, 499, 100);
        x.keep(0);
        row("22 over, no turn", x, 0, 1);
        row("22 over, two turns", x, 2, 0);
        x = told("board 2 3;piece king 0 0 9;piece king 1 5 9;piece man 0 1 9;piece man 0 2 9;");
        x.keep(0);
        x.go(2, 1);
        row("22 the second move", x, 1, 1, 201);
        x = told("board 2 3;odds 0 1 0 0 0;");
        x.keep(0);
        x.go(2, 0);
        row("22 a wind without odds", x, 1, 1, 200);
    }

    // ---- 23
    private void see() {
        WeatherChess x = new WeatherChess();
        for (int i : new int[] {-1, 9, FAR, DEEP}) due("23 bad", x.see(i, 0), BAD);
        for (int side : new int[] {-1, 2, -3, -5, FAR, DEEP}) due("23 bad", x.see(0, side), BAD);
        due("23 first", x.see(0, 0), 1);
        due("23 nobody", x.see(4, NONE), 2);
        due("23 the same again", x.see(0, 1), 3);
        for (int i = 4; i <= 8; i++) due("23 more", x.see(i, NONE), i);
        due("23 full", x.see(0, 0), FULL);
        due("23 full, bad", x.see(9, 0), BAD);
        due("23 how many", x.count(1), 8);
    }

    // ---- 24
    private void forget() {
        WeatherChess x = new WeatherChess();
        due("24 nothing", x.forget(0), 0);
        due("24 above", x.forget(1), BAD);
        x.see(0, 1);
        x.see(0, 0);
        due("24 above", x.forget(3), BAD);
        due("24 below", x.forget(-1), BAD);
        due("24 far", x.forget(FAR), BAD);
        due("24 all stay", x.forget(2), 2);
        due("24 one of two", x.forget(1), 2);
        due("24 how many", x.count(1), 1);
        due("24 the first stays", x.fits(0), 0);
        x.forget(0);
        due("24 none", x.fits(0), 1);
    }

    // ---- 25
    private void fits() {
        WeatherChess x = new WeatherChess();
        int[] all = {1, 5, 25, 125};
        for (int n = 0; n < 4; n++) due("25 nothing seen", x.fits(n), all[n]);
        for (int n : new int[] {-1, 4, FAR, DEEP}) due("25 bad", x.fits(n), BAD);
        x.see(1, 0);
        int[] seen = {0, 1, 5};
        for (int n = 0; n < 3; n++) due("25 side 0 there", x.fits(n), seen[n]);
        x.see(8, 1);
        due("25 side 1 there", x.fits(2), 3);
        x.see(7, NONE);
        due("25 nobody there", x.fits(2), 3);
        x.see(0, NONE);
        due("25 it went", x.fits(2), 3);
        x.see(4, 0);
        due("25 it is not there", x.fits(2), 0);
        x.forget(0);
        due("25 all is forgotten", x.fits(1), 5);
        x.see(0, 1);
        due("25 the other side is not there", x.fits(0), 0);
        x.forget(0);
        x.see(8, NONE);
        due("25 somebody is there", x.fits(0), 0);
        x.forget(0);
        x.see(0, NONE);
        x.see(1, 0);
        due("25 one turn changes two squares", x.fits(1), 1);
        x.forget(0);
        x.see(0, 0);
        x.see(0, NONE);
        due("25 both can not be", x.fits(1), 0);
        x = over();
        due("25 over", x.fits(0), 1);
        for (int n = 1; n < 4; n++) due("25 over", x.fits(n), 0);
        x = told("board 2 2;piece king 0 0 9;piece king 1 1 9;odds 1 0 0 0 0;");
        due("25 by any wind", x.fits(1), 5);
        due("25 none behind the last", x.fits(2), 20);
    }

    // ---- 26
    private void where() {
        WeatherChess x = new WeatherChess();
        due("26 now", x.where(0, 0), 1);
        due("26 in one", x.where(0, 1), 1 | 2 | 8);
        due("26 the other one", x.where(1, 1), 256);
        due("26 the other one in two", x.where(1, 2), 256 | 128 | 32);
        x.see(0, NONE);
        due("26 as seen", x.where(0, 1), 2 | 8);
        x.see(4, 0);
        due("26 nowhere", x.where(0, 1), 0);
        for (int p : new int[] {-1, 2, 6, FAR, DEEP}) due("26 bad", x.where(p, 0), BAD);
        for (int n : new int[] {-1, 4, FAR, DEEP}) due("26 bad", x.where(0, n), BAD);
        x = told("board 2 2;piece king 0 0 9;piece king 1 1 9;");
        due("26 TAKEN by some", x.where(1, 1), 2 | 1 << 25);
        x.see(1, 0);
        due("26 TAKEN by all", x.where(1, 1), 1 << 25);
        due("26 over", over().where(1, 0), 1 << 25);
    }

    // ---- 27
    private void tell() {
        WeatherChess x = new WeatherChess();
        for (int w : new int[] {-1, 5, FAR, DEEP}) due("27 bad", x.tell(w), BAD);
        due("27 first", x.tell(4), 1);
        due("27 second", x.tell(0), 2);
        due("27 third", x.tell(4), 3);
        due("27 full", x.tell(1), FULL);
        due("27 full, bad", x.tell(5), BAD);
        due("27 how many", x.count(2), 3);
    }

    // ---- 28
    private void drop() {
        WeatherChess x = told("board 2 2;piece king 0 0 9;piece king 1 1 9;");
        due("28 nothing", x.drop(0), 0);
        due("28 above", x.drop(1), BAD);
        x.tell(1);
        x.tell(2);
        due("28 above", x.drop(3), BAD);
        due("28 below", x.drop(-1), BAD);
        due("28 far", x.drop(FAR), BAD);
        due("28 one of two", x.drop(1), 2);
        due("28 how many", x.count(2), 1);
        due("28 the first stays", x.blow(0), 0);
        due("28 not so many", x.blow(11), NONE);
        due("28 all", x.drop(0), 1);
        due("28 none", x.blow(0), NONE);
    }

    private void blown(String name, WeatherChess x, int fewest, int... winds) {
        due(name, x.blow(0), fewest);
        for (int i = 0; i < 3; i++) due(name + " wind " + i, x.blow(10 + i), i < winds.length ? winds[i] : NONE);
    }

    // ---- 29
    private void blow() {
        WeatherChess x = told("board 2 2;");
        blown("29 nothing told", x, NONE);
        for (int what : new int[] {-1, 1, 9, 13, FAR, DEEP}) due("29 bad", x.blow(what), BAD);
        x.tell(0);
        blown("29 one", x, NONE);
        x.tell(0);
        blown("29 two", x, NONE);
        x.tell(0);
        blown("29 three", x, 1, 0, 0, 1);
        x.drop(0);
        for (int i = 0; i < 3; i++) x.tell(4);
        blown("29 the first by winds", x, 2, 1, 4, 2);
        due("29 nothing is changed", x.rule(5), 0);
        x = new WeatherChess();
        for (int i = 0; i < 3; i++) x.tell(1);
        blown("29 too far", x, NONE);
        x.put(1, 1);
        blown("29 at once", x, 0, 1, 1, 1);
        x.drop(0);
        x.tell(2);
        blown("29 another wind at once", x, 1, 1);
        x.tell(3);
        blown("29 what is behind it stays", x, 1, 1, 3);
        x.turn(1);
        blown("29 of the other side", x, 1, 3, 3);
        x.turn(0);
        x.put(0, 4);
        x.drop(0);
        x.tell(4);
        blown("29 north", x, 1, 0);
        x = over();
        due("29 over", x.blow(0), STATE);
        due("29 over, bad", x.blow(1), BAD);
        // the one who is to move second takes the first king: that is not what is asked
        x = told("board 2 2;piece king 0 0 9;piece king 1 1 9;piece man 0 3 0;");
        x.tell(4);
        x.tell(3);
        blown("29 the other one could", x, 1, 1, 3);
    }

    /** The first WIND of a seed: the MOVES by it take one of four men, each in its own wind. */
    private static int firstWind(WeatherChess x, int seed) {
        int[] squares = {1, 5, 7, 3};
        for (int w = 0; w < 4; w++) {
            for (int i = 0; i < 4; i++) x.put(1, 0);
            x.put(1, squares[w]);
            if (x.gale(seed, 1, 1) == 1) return w;
        }
        return 4;
    }

    private static int windOf(int seed, int[] odds) {
        int all = 0;
        for (int v : odds) all += v;
        int rest = ((seed * 1103515245 + 12345) >> 16 & 32767) % all;
        int w = 0;
        while (rest >= odds[w]) rest -= odds[w++];
        return w;
    }

    // ---- 30
    private void gale() {
        WeatherChess x = told("piece king 0 4 9;piece king 1 0 9;");
        int[] odds = {1, 1, 1, 1, 1};
        // the later ones become numbers at the ends of bits 16 to 30: one more or less is another wind
        int[] seeds = {0, 1, 2, 3, 5, 8, 1000, -1, -77, FAR, DEEP, 123456789, -404969853, -460866786, -750672253,
            -806569186, -1096374653, -1152271586, -1861048701, -1916945634, 2088216195, 2032319262};
        for (int seed : seeds) due("30 wind of " + seed, firstWind(x, seed), windOf(seed, odds));
        odds = new int[] {3, 0, 5, 1, 9};
        x = told("piece king 0 4 9;piece king 1 0 9;odds 3 0 5 1 9;");
        for (int seed : seeds) due("30 wind by odds of " + seed, firstWind(x, seed), windOf(seed, odds));
        for (int n : new int[] {-1, 0, 61, FAR, DEEP}) due("30 bad", x.gale(1, n, 0), BAD);
        for (int what : new int[] {-1, 2, FAR, DEEP}) due("30 bad", x.gale(1, 1, what), BAD);
        due("30 nothing is changed", x.rule(5), 0);
        due("30 nothing is changed", x.piece(0, 3), 9);

        x = told("board 3 2;piece king 0 0 9;piece king 1 2 9;odds 0 3 0 0 0;");
        due("30 east alone", x.gale(7, 60, 0), 3);
        due("30 lost", x.gale(7, 60, 1), 1);
        due("30 not yet", x.gale(7, 2, 0), 2);
        due("30 not yet", x.gale(7, 2, 1), NONE);
        due("30 just so", x.gale(7, 3, 1), 1);
        x.oil(0, 0);
        due("30 no oil", x.gale(7, 60, 0), 60);
        due("30 no oil", x.gale(7, 60, 1), NONE);
        x = over();
        due("30 over", x.gale(1, 9, 0), 0);
        due("30 over", x.gale(1, 9, 1), 1);
        due("30 over, bad", x.gale(1, 0, 1), BAD);
        x = told("board 2 2;piece king 0 2 9;piece runner 0 0 9;piece king 1 1 9;odds 0 1 0 0 0;");
        due("30 the first move", x.gale(1, 1, 1), NONE);
        due("30 then it takes it", x.gale(1, 3, 0), 3);
    }

    // ---- 31
    private void keep() {
        WeatherChess x = new WeatherChess();
        for (int k : new int[] {-1, 2, FAR, DEEP}) due("31 bad", x.keep(k), BAD);
        due("31 none yet", x.keep(0), 0);
        due("31 one", x.keep(0), 1);
        due("31 the other one", x.keep(1), 0);
        due("31 how many", x.count(3), 2);
        x.back(0);
        due("31 it stays behind back()", x.keep(0), 1);
    }

    // ---- 32
    private void back() {
        WeatherChess x = new WeatherChess();
        for (int k : new int[] {-1, 2, FAR, DEEP}) due("32 bad", x.back(k), BAD);
        due("32 none", x.back(0), STATE);
        due("32 none", x.back(1), STATE);
        x.go(1, 0);
        x.see(1, 0);
        x.see(2, NONE);
        x.tell(3);
        x.tell(0);
        x.tell(2);
        x.steeple(5, true);
        x.weigh(2, 7);
        x.keep(1);
        due("32 still none", x.back(0), STATE);
        x.go(4, NONE);
        x.put(1, 0);
        x.oil(0, 2);
        x.forget(0);
        x.see(4, 1);
        x.see(5, 0);
        x.drop(0);
        x.tell(1);
        x.steeple(5, false);
        x.steeple(4, true);
        x.weigh(2, 1);
        x.sheet(0, 1, 3);
        Check.feed(x, "turn");
        due("32 turns", x.back(1), 1);
        int[] rules = {3, 3, 2, 32, 1, 1, NONE};
        for (int i = 0; i < rules.length; i++) due("32 rule " + i, x.rule(i), rules[i]);
        due("32 place", x.piece(1, 2), 8);
        due("32 oil", x.piece(0, 3), 9);
        due("32 odds", x.odd(2), 7);
        due("32 seen", x.count(1), 2);
        due("32 told", x.count(2), 3);
        due("32 what was seen", x.fits(0), 1);
        x.put(1, 4);
        x.turn(0);
        blown("32 what was told", x, 1, 2, 0, 2);
        due("32 sheets stay", x.count(5), 3);
        due("32 the tape stays", x.count(4), 4);
        due("32 again", x.back(1), 1);
    }

    // ---- 33
    private void sheet() {
        WeatherChess x = new WeatherChess();
        for (int k : new int[] {-1, 4, FAR, DEEP}) due("33 bad", x.sheet(k, 0, 1), BAD);
        for (int lane : new int[] {-1, 3, FAR, DEEP}) due("33 bad", x.sheet(0, lane, 1), BAD);
        due("33 too many", x.sheet(0, 0, 41), BAD);
        due("33 far", x.sheet(0, 0, FAR), BAD);
        due("33 below", x.sheet(0, 0, -1), -14);
        due("33 deep", x.sheet(0, 0, DEEP), -14);
        due("33 below, bad", x.sheet(4, 0, -1), BAD);
        due("33 below, bad", x.sheet(0, 3, -1), BAD);
        due("33 still nothing", x.count(5), NONE);
        due("33 none", x.sheet(0, 2, 0), 1);
        due("33 no cells", x.count(5), 0);
        due("33 all", x.sheet(0, 1, 40), 1);
        due("33 cells", x.count(5), 40);
        due("33 below leaves it", x.sheet(0, 0, -5), -14);
        due("33 cells", x.count(5), 40);
        x.lay(0, 0, 2);
        due("33 cells of 0", x.read(0, 1, 0, 1), 1);
        x.turn(0);
        x.put(0, 0);
        x.sheet(0, 1, 2);
        due("33 a new row", x.read(0, 1, 0, 1), -20);
        for (int k = 1; k < 4; k++) due("33 each", x.sheet(k, k - 1, 3), 1);
    }

    // ---- 34
    private void lay() {
        WeatherChess x = new WeatherChess();
        for (int k : new int[] {-1, 4, FAR, DEEP}) due("34 bad", x.lay(k, 0, 0), BAD);
        due("34 nothing", x.lay(3, 0, 0), -11);
        due("34 nothing", x.lay(3, -1, 0), -11);
        x.sheet(3, 0, 3);
        for (int i : new int[] {-1, 3, FAR, DEEP}) due("34 index", x.lay(3, i, 0), -12);
        due("34 first", x.lay(3, 0, 4), 1);
        due("34 last", x.lay(3, 2, FAR), 1);
        x.sheet(2, 0, 0);
        due("34 no cells", x.lay(2, 0, 0), -12);
        for (int lane = 0; lane < 3; lane++) {
            x.sheet(0, lane, 2);
            int high = lane == 0 ? 256 : 65536;
            x.lay(0, 0, 4 + high);
            x.lay(0, 1, NONE - high);
            due("34 its lowest bits, lane " + lane, x.read(0, lane, 0, 1), lane < 2 ? 1 : -20);
        }
        x.sheet(0, 1, 2);
        x.lay(0, 0, 4 + 256);
        x.lay(0, 1, NONE);
        due("34 shorts are longer", x.read(0, 1, 0, 1), -20);
    }

    // ---- 35
    private void read() {
        WeatherChess x = new WeatherChess();
        for (int k : new int[] {-1, 4, FAR, DEEP}) due("35 bad", x.read(k, 0, 0, 0), BAD);
        for (int lane : new int[] {-1, 3, FAR, DEEP}) due("35 bad", x.read(0, lane, 0, 0), BAD);
        for (int n : new int[] {-1, 14, FAR, DEEP}) due("35 bad", x.read(0, 0, 0, n), BAD);
        due("35 of none", x.read(0, 0, DEEP, 0), 0);
        due("35 no fault", x.torn(), 0);
        due("35 nothing", x.read(0, 0, 0, 1), 0);
        due("35 NULL", x.torn(), 1);
        x.sheet(1, 1, 7);
        Check.lay(x, 1, 9, 1, 0, 2, 0, 4, NONE);
        due("35 another lane", x.read(1, 0, 1, 1), 0);
        due("35 CAST", x.torn(), 3);
        due("35 another lane of an index that there is not", x.read(1, 2, 99, 1), 0);
        due("35 CAST", x.torn(), 3);
        for (int f : new int[] {-1, 6, 7, 99, FAR, DEEP}) {
            due("35 beyond " + f, x.read(1, 1, f, 13), 0);
            due("35 INDEX", x.torn(), 2);
        }
        due("35 none went", x.rule(5), 0);
        due("35 one", x.read(1, 1, 1, 1), 1);
        due("35 it went", x.piece(0, 2), 1);
        due("35 no fault", x.torn(), 0);
        x.back(0);
        due("35 the rest", x.read(1, 1, 5, 1), 1);
        due("35 turns", x.rule(5), 2);
        x = new WeatherChess();
        x.sheet(1, 1, 7);
        Check.lay(x, 1, 9, 1, 0, 0, 0, 4, NONE);
        due("35 three whole ones, then none", x.read(1, 1, 1, 4), 3);
        due("35 INDEX", x.torn(), 2);
        due("35 they went", x.rule(5), 3);
        due("35 place", x.piece(1, 2), 5);
        due("35 a half one is none", x.read(1, 1, 6, 1), 0);
        due("35 INDEX", x.torn(), 2);
    }

    private void readRefused() {
        WeatherChess x = new WeatherChess();
        x.sheet(0, 2, 6);
        Check.lay(x, 0, 1, 0, 0, 0, 1, 1);
        due("35 the third is refused", x.read(0, 2, 0, 3), -22);
        due("35 ahead of what the machine refuses", x.read(0, 2, 0, 4), -22);
        due("35 none goes", x.rule(5), 0);
        due("35 place", x.piece(0, 2), 0);
        due("35 oil", x.piece(1, 3), 9);
        due("35 turn", x.rule(4), 0);
        due("35 two go", x.read(0, 2, 0, 2), 2);
        x.lay(0, 0, -1);
        due("35 no wind", x.read(0, 2, 0, 3), -20);
        x.lay(0, 0, 5);
        due("35 no wind", x.read(0, 2, 0, 3), -20);
        x = over();
        Ways.calms(x, 2);
        due("35 over", x.read(0, 0, 0, 2), -20);
        due("35 over, of none", x.read(0, 0, 0, 0), 0);
        due("35 over, the machine first", x.read(0, 1, 0, 2), 0);
        x = told("board 2 2;piece king 0 0 9;piece king 1 1 9;piece man 1 3 5;");
        x.sheet(0, 0, 4);
        Check.lay(x, 0, 1, 0, 4, NONE);
        due("35 over on the way", x.read(0, 0, 0, 2), -21);
        due("35 none goes", x.square(1), 1);
        due("35 it is not over", x.rule(6), NONE);
        due("35 oil", x.piece(2, 3), 5);
        due("35 one goes", x.read(0, 0, 0, 1), 1);
        due("35 it is over", x.rule(6), 1);
    }

    // ---- 36
    private void torn() {
        WeatherChess x = new WeatherChess();
        due("36 at first", x.torn(), 0);
        x.read(0, 0, 0, 1);
        due("36 NULL", x.torn(), 1);
        x.read(4, 0, 0, 1);
        due("36 BAD leaves it", x.torn(), 1);
        x.sheet(0, 0, 2);
        Check.lay(x, 0, 1, 1);
        x.read(0, 0, 0, 1);
        due("36 one that is refused leaves it", x.torn(), 1);
        x.read(0, 0, 1, 1);
        due("36 INDEX", x.torn(), 2);
        x.text();
        due("36 a text leaves it", x.torn(), 2);
        x.lay(1, 0, 0);
        due("36 lay() leaves it", x.torn(), 2);
        x.read(0, 0, 0, 0);
        due("36 of none", x.torn(), 0);
        x.read(0, 1, 0, 1);
        due("36 CAST", x.torn(), 3);
        x.lay(0, 1, 0);
        x.read(0, 0, 0, 1);
        due("36 no fault", x.torn(), 0);
    }

    // ---- 37
    private void count() {
        WeatherChess x = over();
        due("37 pieces", x.count(0), 2);
        due("37 oil", x.count(6), 22);
        x.see(0, 0);
        due("37 seen", x.count(1), 1);
        x.tell(0);
        x.tell(0);
        due("37 told", x.count(2), 2);
        x.keep(1);
        due("37 images", x.count(3), 1);
        x.feed(0);
        due("37 bytes", x.count(4), 8);
        x.sheet(1, 0, 5);
        due("37 cells of sheet 0", x.count(5), NONE);
        x.sheet(0, 0, 6);
        due("37 cells of sheet 0", x.count(5), 6);
        for (int what : new int[] {-1, 7, FAR, DEEP}) due("37 bad", x.count(what), BAD);
    }
}
