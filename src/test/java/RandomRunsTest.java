import java.util.ArrayList;
import java.util.Arrays;
import java.util.Collections;
import java.util.List;
import java.util.Random;

/** Runs of random calls, each answered by the class and by the Oracle. */
public final class RandomRunsTest {
    // An object is used for 512 calls at most; one step makes some 70 of them at most, to compare all some 145.
    private static final int ALL_CALLS = 512, STEP_CALLS = 75, COMPARE_CALLS = 145;

    private static final String[] KINDS = {"king", "man", "runner", "sparrow"};
    private static final String[] SCRAPS = {"board", "steeple", "piece", "odds", "turn", "king", "man", "runner",
        "sparrow", ";", "0", "1", "2", "3", "5", "9", "10", "24", "25", "123", "00", "a", "lord", "A", ".", "\0", "\u00e9", "  "};

    private final Random random;
    private final Check check;
    private final WeatherChess x = new WeatherChess();
    private final Oracle o = new Oracle();
    private final int run;
    private int calls = 0;

    private RandomRunsTest(int run, Check check) {
        this.run = run;
        this.check = check;
        random = new Random(run);
    }

    public static void main(String[] args) {
        int runs = args.length > 0 ? Integer.parseInt(args[0]) : 2000;
        int from = args.length > 1 ? Integer.parseInt(args[1]) : 0;
        Check check = new Check("RandomRunsTest");
        for (int run = from; run < from + runs; run++) new RandomRunsTest(run, check).play();
        check.close();
    }

    private void play() {
        if (below(8) > 0) text();
        int compareAt = below(3) == 0 ? below(200) : ALL_CALLS;
        while (calls + STEP_CALLS + COMPARE_CALLS <= ALL_CALLS) {
            call();
            if (calls < compareAt || calls + STEP_CALLS + 2 * COMPARE_CALLS > ALL_CALLS) continue;
            compareAll();
            compareAt = ALL_CALLS;
        }
        compareAll();
        if (calls > ALL_CALLS) throw new IllegalStateException(calls + " calls of run " + run);
    }

    private void due(String call, long got, long want) {
        calls++;
        check.due("run " + run + " call " + calls + " " + call, got, want);
    }

    private int below(int n) {
        return random.nextInt(n);
    }

    /** Mostly 0 to n - 1, now and then somewhat or far beside. */
    private int about(int n) {
        switch (below(14)) {
            case 0: return -1 - below(5);
            case 1: return n + below(3);
            case 2: return below(6) > 0 ? below(n) : random.nextInt();
            default: return below(n);
        }
    }

    private int side() {
        return below(3) == 0 ? -4 : about(2);
    }

    private int what() {
        return below(2) == 0 ? 0 : below(8) == 0 ? about(15) : 10 + below(3);
    }

    private int square() {
        return about(o.now.wide * o.now.high);
    }

    private int piece() {
        return about(o.now.pieces.size());
    }

    private int ahead() {
        return below(6) == 0 ? about(4) : below(3);
    }

    private void call() {
        // a run in which all is OVER would ask little
        if (o.now.lost() != -4 && below(4) == 0) {
            int p = piece(), i = square();
            due("put " + p + " " + i, x.put(p, i), o.put(p, i));
            if (below(4) == 0) text();
        }
        switch (below(16)) {
            case 0: case 1: readings(); break;
            case 2: changes(); break;
            case 3: case 4: case 5: case 6: turns(); break;
            case 7: gales(); break;
            case 8: case 9: rows(); break;
            case 10: fog(); break;
            case 11: blowing(); break;
            case 12: images(); break;
            case 13: case 14: sheets(); break;
            default: if (below(4) == 0) text();
        }
    }

    private void readings() {
        int i = square();
        due("square " + i, x.square(i), o.square(i));
        int w = about(5);
        due("odd " + w, x.odd(w), o.odd(w));
        int what = about(7);
        due("rule " + what, x.rule(what), o.rule(what));
        due("count " + what, x.count(what), o.count(what));
        int p = piece(), part = about(4);
        due("piece " + p + " " + part, x.piece(p, part), o.piece(p, part));
    }

    private void changes() {
        int p = piece(), i = square(), w = about(5), v = about(10), side = about(2);
        boolean is = random.nextBoolean();
        switch (below(6)) {
            case 0: due("oil " + p + " " + v, x.oil(p, v), o.oil(p, v)); break;
            case 1: due("put " + p + " " + i, x.put(p, i), o.put(p, i)); break;
            case 2: due("steeple " + i + " " + is, x.steeple(i, is), o.steeple(i, is)); break;
            case 3: due("weigh " + w + " " + v, x.weigh(w, v), o.weigh(w, v)); break;
            case 4: due("weigh " + w + " 0", x.weigh(w, 0), o.weigh(w, 0)); break;
            default: due("turn " + side, x.turn(side), o.turn(side));
        }
    }

    private void turns() {
        int w = about(5);
        int n = x.moves(w);
        due("moves " + w, n, o.moves(w));
        int k = n > 0 ? about(n) : below(4) == 0 ? about(3) : -4;
        due("move " + w + " " + k, x.move(w, k), o.move(w, k));
        due("go " + w + " " + k, x.go(w, k), o.go(w, k));
    }

    private void gales() {
        int side = about(2), n = ahead(), what = about(2), w = about(5), seed = random.nextInt(), most = about(61);
        due("chance " + side + " " + n + " " + what, x.chance(side, n, what), o.chance(side, n, what));
        due("byWind " + w + " " + n + " " + what, x.byWind(w, n, what), o.byWind(w, n, what));
        due("best " + w + " " + n, x.best(w, n), o.best(w, n));
        due("hope " + n, x.hope(n), o.hope(n));
        due("gale " + seed + " " + most + " " + what, x.gale(seed, most, what), o.gale(seed, most, what));
    }

    private void rows() {
        int k = about(2), n = ahead();
        for (int i = 0; i < 3; i++) {
            int what = what();
            due("since " + k + " " + n + " " + what, x.since(k, n, what), o.since(k, n, what));
        }
    }

    private void fog() {
        int i = square(), side = side(), n = ahead(), p = piece();
        switch (below(4)) {
            case 0: case 1: due("see " + i + " " + side, x.see(i, side), o.see(i, side)); break;
            case 2:
                int keep = below(3) > 0 ? about(9) : 0;
                due("forget " + keep, x.forget(keep), o.forget(keep));
                break;
            default:
        }
        due("fits " + n, x.fits(n), o.fits(n));
        due("where " + p + " " + n, x.where(p, n), o.where(p, n));
    }

    private void blowing() {
        int w = about(5), n = about(4);
        if (below(4) > 0) due("tell " + w, x.tell(w), o.tell(w));
        else due("drop " + n, x.drop(n), o.drop(n));
        for (int i = 0; i < 3; i++) {
            int what = what();
            due("blow " + what, x.blow(what), o.blow(what));
        }
    }

    private void images() {
        int k = about(2);
        if (below(3) > 0) due("keep " + k, x.keep(k), o.keep(k));
        else due("back " + k, x.back(k), o.back(k));
    }

    private void sheets() {
        int k = about(4), lane = about(3), cells = below(4) == 0 ? about(41) : 4 + below(37);
        if (below(3) == 0) due("sheet " + k + " " + lane + " " + cells, x.sheet(k, lane, cells), o.sheet(k, lane, cells));
        int laid = below(4) == 0 ? below(40) : 0;
        for (int i = 0; i < laid; i++) {
            int cell = about(40), v = below(9) == 0 ? random.nextInt() : below(3) == 0 ? -4 : below(5) + (below(9) - 4) * 65536;
            due("lay " + k + " " + cell + " " + v, x.lay(k, cell, v), o.lay(k, cell, v));
        }
        if (below(2) == 0) for (int i = 0; i < 20; i++) {
            int calm = i % 2 == 0 ? 4 : -4;
            due("lay " + k + " " + i + " " + calm, x.lay(k, i, calm), o.lay(k, i, calm));
        }
        for (int i = 0; i < 3; i++) {
            int right = k >= 0 && k < 4 && below(5) > 0 ? o.lanes[k] : lane;
            int f = about(40), n = about(14);
            if (below(2) == 0) f = 2 * below(6);
            if (below(2) == 0) n = below(4);
            due("read " + k + " " + right + " " + f + " " + n, x.read(k, right, f, n), o.read(k, right, f, n));
            due("torn", x.torn(), o.torn());
        }
    }

    // ---- texts

    private void text() {
        String text = below(6) == 0 ? soup() : below(4) == 0 ? spoiled(whole()) : whole();
        int had = x.end(0);
        due("end 0", had, o.end(0));
        for (int i = 0; i < text.length() && i < 340; i += 8) {
            long v = random.nextLong();
            for (int j = i; j < i + 8 && j < text.length(); j++) {
                int shift = 56 - 8 * (j - i);
                v = v & ~(255L << shift) | (long) (text.charAt(j) & 255) << shift;
            }
            due("feed " + v, x.feed(v), o.feed(v));
        }
        int end = below(20) == 0 ? about(321) : Math.min(text.length(), 320);
        due("end " + end, x.end(end), o.end(end));
        due("text " + text, x.text(), o.text());
        due("fault " + text, x.fault(), o.fault());
    }

    private String soup() {
        StringBuilder s = new StringBuilder();
        int n = below(14);
        for (int i = 0; i < n; i++) s.append(SCRAPS[below(SCRAPS.length)]).append(blanks(1));
        return s.toString();
    }

    private String blanks(int least) {
        return " ".repeat(least + (below(12) == 0 ? below(3) : 0));
    }

    private String spoiled(String text) {
        StringBuilder s = new StringBuilder(text);
        int n = 1 + below(2);
        for (int i = 0; i < n && s.length() > 0; i++) {
            int at = below(s.length());
            switch (below(4)) {
                case 0: s.deleteCharAt(at); break;
                case 1: s.insert(at, SCRAPS[below(SCRAPS.length)]); break;
                case 2: s.setCharAt(at, (char) ('0' + below(10))); break;
                default: s.setLength(at);
            }
        }
        return s.toString();
    }

    private String whole() {
        int wide = 3, high = 3;
        StringBuilder s = new StringBuilder();
        boolean told = below(6) > 0;
        if (told) {
            wide = 2 + below(4);
            high = 2 + below(4);
        }
        String board = told ? line("board", wide, high) : "";
        boolean early = random.nextBoolean();
        if (early) s.append(board);
        int pieces = Math.min(wide * high, below(6) == 0 ? 0 : 2 + below(5));
        List<Integer> free = new ArrayList<>();
        for (int i = 0; i < wide * high; i++) free.add(i);
        Collections.shuffle(free, random);
        for (int p = 0; p < pieces; p++) {
            int kind = p < 2 ? 0 : 1 + below(3);
            if (below(60) == 0) kind = 0;
            int side = p < 2 ? p : below(2);
            s.append("piece").append(blanks(1)).append(KINDS[kind]).append(blanks(1));
            s.append(line("", side, free.remove(0), below(4) == 0 ? below(3) : below(10)));
        }
        int steeples = below(3) == 0 ? below(5) : below(2);
        for (int i = 0; i < steeples && !free.isEmpty(); i++) s.append(line("steeple", free.remove(0)));
        if (below(2) == 0) s.append(line("odds", below(10), below(4), below(10), below(3), below(10)));
        if (below(2) == 0) s.append(line("turn", below(2)));
        if (!early) s.append(board);
        return below(8) == 0 ? shuffled(s.toString()) : s.toString();
    }

    /** The lines in another order, some of them twice, with a SQUARE and a PIECE too many now and then. */
    private String shuffled(String text) {
        List<String> lines = new ArrayList<>(Arrays.asList(text.split("(?<=;)")));
        Collections.shuffle(lines, random);
        if (below(3) == 0) lines.add(below(lines.size()), lines.get(below(lines.size())));
        if (below(3) == 0) lines.add(line("steeple", below(25)));
        if (below(3) == 0) lines.add(line("piece man", below(2), below(25), below(10)));
        return String.join("", lines);
    }

    private String line(String name, int... numbers) {
        StringBuilder s = new StringBuilder(blanks(0)).append(name);
        for (int i = 0; i < numbers.length; i++) {
            s.append(blanks(i > 0 || below(3) > 0 ? 1 : 0));
            if (numbers[i] < 10 && below(15) == 0) s.append('0');
            s.append(numbers[i]);
        }
        return s.append(blanks(0)).append(';').toString();
    }

    private void compareAll() {
        for (int what = -1; what < 8; what++) {
            due("rule " + what, x.rule(what), o.rule(what));
            due("count " + what, x.count(what), o.count(what));
        }
        for (int p = 0; p < 6; p++) {
            for (int what = 0; what < 4; what++) due("piece " + p + " " + what, x.piece(p, what), o.piece(p, what));
        }
        for (int i = 0; i < 25; i++) due("square " + i, x.square(i), o.square(i));
        for (int w = 0; w < 5; w++) {
            due("odd " + w, x.odd(w), o.odd(w));
            int n = o.moves(w);
            due("moves " + w, x.moves(w), n);
            for (int k = -1; k <= n; k++) due("move " + w + " " + k, x.move(w, k), o.move(w, k));
        }
        due("fault", x.fault(), o.fault());
        due("torn", x.torn(), o.torn());
    }
}
