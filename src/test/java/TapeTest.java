import java.util.ArrayList;
import java.util.List;

/** THE TAPE, its TOKENS, and the FAULTS of a text: full, empty, at the last byte, at each end of each bound. */
public final class TapeTest {
    private static final int BAD = -1, STATE = -2, FULL = -3, NONE = -4;
    private static final String KINGS = "piece king 0 0 9;piece king 1 8 9;";

    /** A line of each kind, by its TOKENS, and the bounds of its NUMBERS. */
    private static final String[][] LINES = {{"board", "3", "4", ";"}, {"steeple", "4", ";"},
        {"piece", "king", "0", "5", "9", ";"}, {"odds", "1", "0", "0", "0", "9", ";"}, {"turn", "1", ";"}};
    private static final int[][] LEAST = {{2, 2}, {0}, {0, 0, 0}, {0, 0, 0, 0, 0}, {0}};
    private static final int[][] MOST = {{5, 5}, {24}, {1, 24, 9}, {9, 9, 9, 9, 9}, {1}};

    private final Check check = new Check("TapeTest");

    public static void main(String[] args) {
        TapeTest t = new TapeTest();
        t.feed();
        t.feedOrder();
        t.end();
        t.empty();
        t.full();
        t.mostLines();
        t.blanks();
        t.figures();
        t.everyByte();
        t.names();
        t.wrongTokens();
        t.bounds();
        t.zeroOdds();
        t.twice();
        t.taken();
        t.seventh();
        t.behindAll();
        t.noPieces();
        t.tellsAll();
        t.staysByFault();
        t.latestFault();
        t.check.close();
    }

    private void due(String call, long got, long want) {
        check.due(call, got, want);
    }

    private void fault(String text, int fault, int place) {
        WeatherChess x = new WeatherChess();
        due("text of " + text, Check.tell(x, text), -10 - place);
        due("fault of " + text, x.fault(), fault);
        due("THE TAPE behind " + text, x.count(4), 0);
    }

    private WeatherChess whole(String text, int lines) {
        WeatherChess x = new WeatherChess();
        due("text of " + text, Check.tell(x, text), lines);
        due("fault of " + text, x.fault(), 0);
        due("THE TAPE behind " + text, x.count(4), 0);
        return x;
    }

    private static String blanks(int n) {
        return " ".repeat(n);
    }

    // ---- 2
    private void feed() {
        check.says("Eight bytes come behind THE TAPE, the highest first: how many it has. FULL: more than 320.");
        WeatherChess x = new WeatherChess();
        for (int i = 1; i <= 40; i++) due("feed " + i, x.feed(-i), 8 * i);
        due("the 41st", x.feed(0), FULL);
        due("it has still 320", x.count(4), 320);
        for (int n = 319; n >= 313; n--) {
            due("end " + n, x.end(n), n == 319 ? 320 : n + 1);
            due("feed at " + n, x.feed(0), FULL);
            due("it has still", x.count(4), n);
        }
        x.end(312);
        due("feed at 312", x.feed(0), 320);
        x.end(0);
        due("feed at 0", x.feed(0), 8);
        x.end(1);
        due("feed at 1", x.feed(0), 9);
    }

    private void feedOrder() {
        check.says("Eight bytes come behind THE TAPE, the highest first");
        // each byte in its turn is no TOKEN among blanks: its place is told
        for (int i = 0; i < 8; i++) {
            WeatherChess x = new WeatherChess();
            x.feed(0x2020202020202020L);
            x.feed(0x2020202020202020L & ~(255L << 56 - 8 * i) | 200L << 56 - 8 * i);
            due("byte " + i, x.text(), -10 - (8 + i));
            due("fault", x.fault(), 1);
        }
        WeatherChess x = new WeatherChess();
        x.feed(Long.MIN_VALUE);
        due("the highest bit", x.text(), -10);
        x.feed(-1);
        due("all bits", x.text(), -10);
        x.feed(0);
        due("no bits", x.text(), -10);
    }

    // ---- 3
    private void end() {
        check.says("THE TAPE keeps its first n bytes: how many it had. BAD (n above that, too).");
        WeatherChess x = new WeatherChess();
        due("of nothing", x.end(0), 0);
        due("above nothing", x.end(1), BAD);
        Check.feed(x, "turn 1;?");
        due("one above", x.end(9), BAD);
        due("all", x.end(8), 8);
        due("but one", x.end(7), 8);
        due("what was there is gone", x.end(8), BAD);
        due("the rest is read", x.text(), 1);
        due("TURN", x.rule(4), 1);
        due("all is gone", x.end(1), BAD);
        Check.feed(x, "turn 9;");
        x.end(5);
        x.feed(0x303b202020202020L);
        due("the next bytes come there", x.count(4), 13);
        due("they are read", x.text(), 1);
        due("TURN", x.rule(4), 0);
        Check.feed(x, "turn 1;");
        due("none", x.end(0), 7);
        due("the empty text", x.text(), 0);
        due("TURN", x.rule(4), 0);
    }

    // ---- 4
    private void empty() {
        check.says("THE TAPE (empty then, by a FAULT, too) tells all: how many lines");
        WeatherChess x = Twins.gone(Ways::rich);
        x.end(0);
        due("no line", x.text(), 0);
        check.same("as at first", state(x), state(new WeatherChess()));
        x = Twins.gone(Ways::rich);
        Check.feed(x, blanks(320));
        due("blanks alone", x.text(), 0);
        check.same("as at first", state(x), state(new WeatherChess()));
        x = Twins.gone(Ways::rich);
        due("what is there", x.text(), 1);
        due("then it is empty", x.text(), 0);
        due("TURN is as at first", x.rule(4), 0);
    }

    private static List<String> state(WeatherChess x) {
        List<String> all = new ArrayList<>();
        for (int what = 0; what < 7; what++) all.add("rule " + what + " = " + x.rule(what));
        for (int p = 0; p < 6; p++) for (int what = 0; what < 4; what++) all.add("piece " + p + " = " + x.piece(p, what));
        for (int w = 0; w < 5; w++) all.add("odd " + w + " = " + x.odd(w));
        for (int what : new int[] {0, 1, 2, 3, 4, 6}) all.add("count " + what + " = " + x.count(what));
        for (int k = 0; k < 2; k++) all.add("since " + k + " = " + x.since(k, 0, 0));
        return all;
    }

    private void full() {
        check.says("THE TAPE has 320 bytes, places from 0.");
        whole("turn 1" + blanks(313) + ";", 1);
        whole(blanks(313) + "turn 1;", 1);
        whole("turn 1;" + blanks(313), 1);
        fault("turn 1" + blanks(314), 2, 320);
        fault(blanks(319) + "?", 1, 319);
        fault(blanks(319) + ";", 2, 319);
        fault(blanks(319) + "z", 2, 319);
        fault(blanks(319) + "9", 2, 319);
        fault(blanks(318) + "99", 2, 318);
        fault(blanks(317) + "999", 1, 317);
        fault("z".repeat(320), 2, 0);
        fault("9".repeat(320), 1, 0);
        fault("piece king 0 0 1;" + blanks(303), 7, 320);
        fault("?" + blanks(319), 1, 0);
    }

    private void mostLines() {
        check.says("how many lines");
        StringBuilder s = new StringBuilder("board5 5;odds1 1 1 1 1;turn1;piece king0 0 9;piece king1 24 9;");
        for (int i = 1; i < 24; i++) s.append("steeple").append(i).append(';');
        WeatherChess x = whole(s.toString(), 28);
        due("STEEPLES", x.rule(3), (1 << 24) - 2);
        whole(KINGS + "piece man 0 1 1;piece man 0 2 1;piece man 0 3 1;piece man 0 4 1;", 6);
        whole("turn 0;", 1);
    }

    // ---- TOKENS

    private void blanks() {
        check.says("blanks (32) ahead, between, behind, as many as wanted (at least one between two NAMES, two NUMBERS; else none)");
        for (String[] line : LINES) {
            StringBuilder few = new StringBuilder();
            StringBuilder many = new StringBuilder(blanks(3));
            for (int i = 0; i < line.length; i++) {
                boolean isBlank = i > 0 && isName(line[i]) == isName(line[i - 1]) && isNumber(line[i]) == isNumber(line[i - 1]);
                if (isBlank) few.append(' ');
                few.append(line[i]);
                many.append(line[i]).append(blanks(1 + i * 3));
            }
            boolean isPiece = line[0].equals("piece");
            String rest = isPiece ? "piece king1 8 9;" : "";
            whole(few + rest, isPiece ? 2 : 1);
            whole(many + rest + "  ", isPiece ? 2 : 1);
        }
        fault("pieceking 0 0 9;", 2, 0);
        fault("piecekin g0 0 9;", 2, 0);
        fault("boardturn", 2, 0);
        fault("board 25;", 3, 6);
        fault("board 2;", 2, 7);
        fault("odds 1 1 1 11;", 3, 11);
        fault("odds 1 1 1 1 1 1;", 2, 15);
        fault("turn1;turn", 4, 6);
        fault("bo ard 2 2;", 2, 0);
        fault("turn 1 ; ;", 2, 9);
        fault("turn 0 1;", 2, 7);
        for (char c : new char[] {'\t', '\n', '\r', '\f', 0, 31, 33, 160}) fault("turn" + c + "1;", 1, 4);
    }

    private static boolean isName(String token) {
        return token.charAt(0) >= 'a' && token.charAt(0) <= 'z';
    }

    private static boolean isNumber(String token) {
        return token.charAt(0) >= '0' && token.charAt(0) <= '9';
    }

    private void figures() {
        check.says("NUMBERS (1 or 2 figures)");
        due("one", whole("turn 1;", 1).rule(4), 1);
        due("two", whole("turn 01;", 1).rule(4), 1);
        due("two", whole("turn 00;", 1).rule(4), 0);
        due("two", whole("board 02 05;", 1).rule(1), 5);
        due("two", whole("board 5 5;steeple 09;steeple 10;steeple 19;steeple 20;", 5).rule(3), 1 << 9 | 1 << 10 | 1 << 19 | 1 << 20);
        fault("turn 001;", 1, 5);
        fault("turn 000;", 1, 5);
        fault("turn 1000000000000;", 1, 5);
        fault("turn 4294967296;", 1, 5);
        fault("turn 99;", 3, 5);
        fault("turn 100;", 1, 5);
        fault("turn 10 0;", 3, 5);
    }

    private void everyByte() {
        check.says("1 no TOKEN, a NUMBER that is too long (its first byte).");
        for (int b = 0; b < 256; b++) {
            char c = (char) b;
            boolean isToken = c >= 'a' && c <= 'z' || c >= '0' && c <= '9' || c == ';';
            if (c == ' ') {
                whole("" + c, 0);
                continue;
            }
            fault("" + c, isToken ? 2 : 1, 0);
            if (!isToken) fault("turn 1; " + c + ";", 1, 8);
            if (!isToken) fault("turn" + c + "1;", 1, 4);
            if (!isToken) fault("turn 1" + c + ";", 1, 6);
        }
        fault("turn 1.", 1, 6);
        fault("turn 1,", 1, 6);
        fault("turn -1;", 1, 5);
        fault("turn +1;", 1, 5);
        fault("Turn 1;", 1, 0);
        fault("tUrn 1;", 2, 0);
        fault("turn 1:", 1, 6);
    }

    private void names() {
        check.says("2 a TOKEN that can not stand there (a NAME that begins no line, is no K; or the end: the length).");
        String[] begins = {"board", "steeple", "piece", "odds", "turn"};
        String[] kinds = {"king", "man", "runner", "sparrow"};
        for (String name : begins) {
            wrongName("", name, "");
            fault("piece " + name + " 0 0 9;", 2, 6);
        }
        for (String name : kinds) {
            wrongName("piece ", name, " 0 0 9;");
            fault(name + " 0 0 9;", 2, 0);
            fault("piece " + name + ";", 2, 6 + name.length());
        }
        for (int kind = 0; kind < 4; kind++) {
            WeatherChess x = whole("piece " + kinds[kind] + " 1 5 4;piece king 0 0 9;" + (kind == 0 ? "" : "piece king 1 8 9;"),
                kind == 0 ? 2 : 3);
            due("KIND", x.piece(0, 1), kind);
        }
    }

    /** The NAME with a letter less, more, or another one is none. */
    private void wrongName(String ahead, String name, String behind) {
        int n = name.length();
        fault(ahead + name.substring(0, n - 1) + behind, 2, ahead.length());
        fault(ahead + name.substring(1) + behind, 2, ahead.length());
        fault(ahead + name + name.charAt(n - 1) + behind, 2, ahead.length());
        for (int i = 0; i < n; i++) {
            char other = name.charAt(i) == 'a' ? 'b' : (char) (name.charAt(i) - 1);
            fault(ahead + name.substring(0, i) + other + name.substring(i + 1) + behind, 2, ahead.length());
        }
    }

    /** Each TOKEN of each line is another one, or none, or the end. */
    private void wrongTokens() {
        check.says("FAULTS, the first met as it is read .. 1 no TOKEN .. 2 a TOKEN that can not stand there");
        String[] others = {"lord", "7", ";", "?", "777", ""};
        for (String[] line : LINES) {
            StringBuilder ahead = new StringBuilder();
            for (String token : line) {
                int place = ahead.length();
                for (String other : others) {
                    boolean isNumber = isNumber(token) && other.equals("7");
                    if (isNumber || other.equals(token) || other.isEmpty() && place == 0) continue;
                    int fault = other.equals("?") || other.equals("777") ? 1 : 2;
                    fault(ahead + other, fault, place);
                    if (!other.isEmpty()) fault(ahead + other + " ?", fault, place);
                    if (other.isEmpty()) fault(ahead + "   ", fault, place + 3);
                }
                ahead.append(token).append(' ');
            }
        }
    }

    private void bounds() {
        check.says("3 a NUMBER out of its bounds");
        for (int l = 0; l < LINES.length; l++) {
            for (int i = 0; i < MOST[l].length; i++) {
                int t = LINES[l][1].equals("king") ? i + 2 : i + 1;
                for (int v : new int[] {LEAST[l][i], MOST[l][i]}) numbered(l, t, v, true);
                for (int v : new int[] {LEAST[l][i] - 1, MOST[l][i] + 1, 99}) if (v >= 0) numbered(l, t, v, false);
            }
        }
    }

    private void numbered(int l, int t, int v, boolean isTaken) {
        StringBuilder s = new StringBuilder();
        int place = 0;
        for (int i = 0; i < LINES[l].length; i++) {
            if (i == t) place = s.length();
            s.append(i == t ? "" + v : LINES[l][i]).append(i == LINES[l].length - 1 ? "" : " ");
        }
        // kings where they are in no way, on the largest board
        String board = l == 0 ? "" : "board 5 5;";
        String kings = l == 2 ? "piece king " + (t == 2 ? 1 - v : 1) + " 2 9;" : "";
        if (isTaken) whole(board + s + (l < 2 ? "piece king 0 1 9;piece king 1 2 9;" : kings), l == 0 ? 3 : l == 1 ? 4 : l == 2 ? 3 : 2);
        else fault(board + s, 3, board.length() + place);
    }

    private void zeroOdds() {
        check.says("3 .. the fifth of odds if all are 0.");
        fault("odds 0 0 0 0 0;", 3, 13);
        fault("odds 00 00 00 00  00;", 3, 18);
        fault("odds 0 0 0 0 10;", 3, 13);
        fault("odds 0 0 0 0;", 2, 12);
        for (int w = 0; w < 5; w++) {
            StringBuilder s = new StringBuilder("odds");
            for (int i = 0; i < 5; i++) s.append(i == w ? " 1" : " 0");
            WeatherChess x = whole(s + ";", 1);
            for (int i = 0; i < 5; i++) due("ODDS of " + i, x.odd(i), i == w ? 1 : 0);
        }
    }

    // ---- FAULTS 4 to 8

    private void twice() {
        check.says("4 board, odds, turn for the second time (its NAME)");
        fault("board 3 3;board 3 3;", 4, 10);
        fault("board 3 3; steeple 4; board", 4, 22);
        fault("odds 1 1 1 1 1; odds 1 1 1 1 1;", 4, 16);
        fault("turn 0;turn 0;", 4, 7);
        fault("turn 0;  turn", 4, 9);
        fault("turn 0;board 2 2;odds 1 1 1 1 1;turn 1;", 4, 32);
        whole("steeple 1;steeple 2;", 2);
    }

    private void taken() {
        check.says("4 .. a SQUARE with a STEEPLE, a PIECE already (it).");
        fault("steeple 4;steeple 4;", 4, 18);
        fault("steeple 4;steeple 04;", 4, 18);
        fault("steeple 0;steeple 0;", 4, 18);
        fault("steeple 24;steeple 24;", 4, 19);
        fault("steeple 4;piece man 0 4 1;", 4, 22);
        fault("steeple 24;piece man 0 24 1;", 4, 23);
        fault("piece man 0 4 1;piece man 1 4 1;", 4, 28);
        fault("piece man 0 4 1;piece man 0 4 1;", 4, 28);
        fault("piece man 0 0 1;steeple 0;", 4, 24);
        fault("piece man 0 24 1;steeple 24;", 4, 25);
        whole(KINGS + "steeple 1;steeple 7;", 4);
    }

    private void seventh() {
        check.says("5 the 7th piece (its NAME).");
        StringBuilder s = new StringBuilder();
        for (int p = 0; p < 6; p++) s.append("piece man 0 ").append(p).append(" 1;");
        fault(s + "", 7, 96);
        fault(s + "piece", 5, 96);
        fault(s + "  piece man 0 6 1;", 5, 98);
        fault(s + "turn 1;piece man 0 6 1;", 5, 103);
        WeatherChess x = whole(KINGS + "piece man 0 1 1;piece man 0 2 1;piece man 0 3 1;piece man 0 4 1;", 6);
        due("six PIECES", x.rule(2), 6);
        due("the sixth", x.piece(5, 2), 4);
        due("no seventh", x.piece(6, 2), BAD);
    }

    private void behindAll() {
        check.says("Behind all (the length): 6 a SQUARE that there is not");
        int[][] boards = {{2, 2}, {2, 5}, {5, 2}, {3, 3}, {4, 5}, {5, 4}};
        for (int[] b : boards) {
            int last = b[0] * b[1] - 1;
            String text = "board " + b[0] + " " + b[1] + ";piece king 0 0 9;piece king 1 1 9;";
            whole(text + "steeple " + last + ";", 4);
            whole(text + "piece man 0 " + last + " 1;", 4);
            String one = text + "steeple " + (last + 1) + ";";
            fault(one, 6, one.length());
            one = text + "piece man 0 " + (last + 1) + " 1;  ";
            fault(one, 6, one.length());
            one = "piece king 0 0 9;piece king 1 " + (last + 1) + " 9;board " + b[0] + " " + b[1] + ";";
            fault(one, 6, one.length());
        }
        fault("steeple 9;", 6, 10);
        whole("board 5 5;steeple 23;", 2);
        check.says("7 a SIDE without a king, with more than one");
        fault("piece king 0 0 9;", 7, 17);
        fault("piece king 1 0 9;", 7, 17);
        fault("piece man 0 0 9;", 7, 16);
        fault("piece king 0 0 9;piece man 1 8 9; ", 7, 34);
        fault(KINGS + "piece king 0 1 9;", 7, 51);
        fault(KINGS + "piece king 1 1 9;", 7, 51);
        fault("piece king 0 0 9;piece king 0 1 9;", 7, 34);
        fault("piece king 1 0 9;piece king 1 1 9;", 7, 34);
        whole(KINGS, 2);
        whole("piece man 1 2 9;piece king 1 0 9;piece king 0 8 9;", 3);
    }

    private void noPieces() {
        check.says("8 no piece at all (then there are two kings ..), and a STEEPLE on one of these SQUARES.");
        fault("steeple 0;", 8, 10);
        fault("steeple 8;", 8, 10);
        fault("steeple 0;steeple 8; ", 8, 21);
        fault("board 5 5;steeple 24;", 8, 21);
        fault("board 2 2;steeple 3;", 8, 20);
        whole("board 2 2;steeple 1;steeple 2;", 3);
        whole("board 5 5;steeple 8;", 2);
        whole("steeple 0;piece king 0 1 9;piece king 1 2 9;", 3);
        whole("steeple 8;piece king 0 1 9;piece king 1 2 9;", 3);
        WeatherChess x = whole("board 4 5;turn 1;", 2);
        int[][] due = {{0, 0, 0, 9}, {1, 0, 19, 9}};
        for (int p = 0; p < 2; p++) for (int i = 0; i < 4; i++) due("king " + p + ", " + i, x.piece(p, i), due[p][i]);
        due("two PIECES", x.rule(2), 2);
    }

    // ---- all in place of what there was

    private void tellsAll() {
        check.says("A text that is taken tells all, in place of what there was (what it does not tell is as at first)");
        String[] texts = {"board 4 4;", "steeple 1;", "odds 0 0 0 9 0;", "turn 1;", KINGS};
        for (String text : texts) {
            WeatherChess x = Twins.gone(Ways::rich);
            WeatherChess fresh = new WeatherChess();
            due("text " + text, Check.tell(x, text), Check.tell(fresh, text));
            check.same("as at first, but for " + text, state(x), state(fresh));
        }
        check.says("nothing is SEEN, no WINDS are TOLD; IMAGES are gone; SHEETS stay.");
        WeatherChess x = Twins.gone(Ways::rich);
        due("text", x.text(), 1);
        due("SEEN", x.count(1), 0);
        due("none to forget", x.forget(1), BAD);
        due("TOLD", x.count(2), 0);
        due("none to drop", x.drop(1), BAD);
        due("IMAGES", x.count(3), 0);
        for (int k = 0; k < 2; k++) {
            due("no IMAGE " + k, x.back(k), STATE);
            due("no IMAGE " + k, x.since(k, 0, 0), STATE);
            due("there was none " + k, x.keep(k), 0);
        }
        due("SHEET 0", x.count(5), 6);
        due("SHEET 0 has its CELLS", x.read(0, 0, 0, 2), 2);
        due("SHEET 1 has its CELLS", x.read(1, 1, 0, 1), 1);
        due("SHEET 2 has none", x.lay(2, 0, 0), -12);
        due("SHEET 3 is nothing", x.lay(3, 0, 0), -11);
        for (int k = 0; k < 4; k++) {
            x.sheet(k, k % 3, 2);
            Check.lay(x, k, 4, NONE);
        }
        due("the empty text", x.text(), 0);
        due("a FAULT", Check.tell(x, "?"), -10);
        for (int k = 0; k < 4; k++) due("SHEET " + k + " has its CELLS", x.read(k, k % 3, 0, 1), 1);
        x = Twins.gone(Ways::rich);
        x.text();
        due("torn() stays", x.torn(), 1);
        x = Twins.gone(Ways::over);
        x.text();
        due("it is OVER no more", x.rule(6), NONE);
        due("TURNS", x.rule(5), 0);
        x = Twins.gone(Ways::last);
        x.text();
        due("the 1000th is far again", x.go(4, NONE), NONE);
    }

    private void staysByFault() {
        check.says("-10 less the place of its FAULT: that which was told stays.");
        WeatherChess x = Twins.gone(Ways::rich);
        due("text", Check.tell(x, "board 5 5;odds 9 9 9 9 9;turn 1;steeple 1;piece man 0 2 2"), -10 - 57);
        due("WIDE", x.rule(0), 3);
        due("HIGH", x.rule(1), 3);
        due("PIECES", x.rule(2), 4);
        due("STEEPLES", x.rule(3), 16);
        due("TURN", x.rule(4), 0);
        due("TURNS", x.rule(5), 4);
        due("ODDS", x.odd(2), 0);
        due("SEEN", x.count(1), 3);
        due("TOLD", x.count(2), 2);
        due("IMAGES", x.count(3), 2);
        due("THE TAPE is empty", x.count(4), 0);
        due("OIL", x.piece(2, 3), 2);
        due("IMAGE 0", x.back(0), 1);
    }

    // ---- 5
    private void latestFault() {
        check.says("The FAULT of the latest text(); 0.");
        WeatherChess x = new WeatherChess();
        due("at first", x.fault(), 0);
        String[] texts = {"?", ";", "turn 2;", "turn 0;turn 0;", "", "steeple 9;", "piece king 0 0 9;", "steeple 0;", "turn 1;"};
        int[] faults = {1, 2, 3, 4, 0, 6, 7, 8, 0};
        for (int i = 0; i < texts.length; i++) {
            Check.tell(x, texts[i]);
            due("of " + texts[i], x.fault(), faults[i]);
            due("asked again", x.fault(), faults[i]);
            x.end(0);
            x.go(4, NONE);
            x.feed(0);
            due("nothing else is one", x.fault(), faults[i]);
        }
    }
}
