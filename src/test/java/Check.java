import java.util.List;

/** Counts the answers that are not as due, and ends a test with exit code 1 if there was one. */
final class Check {
    private final String name;
    private String sentence = "";
    private int asked = 0;
    private int wrong = 0;

    Check(String name) {
        this.name = name;
    }

    /** The sentence of the document that is asked from now on, told with every answer that is not as due. */
    void says(String words) {
        sentence = " \"" + words + "\":";
    }

    void due(String call, long got, long want) {
        asked++;
        if (got != want) fault(call + " answered " + got + ", due is " + want);
    }

    void holds(String what, boolean is) {
        due(what, is ? 1 : 0, 1);
    }

    /** Two readouts that must be the same: the first place where they differ is told. */
    void same(String what, List<String> got, List<String> want) {
        asked++;
        for (int i = 0; i < got.size() && i < want.size(); i++) {
            if (got.get(i).equals(want.get(i))) continue;
            fault(what + ": " + got.get(i) + ", due is " + want.get(i));
            return;
        }
        if (got.size() != want.size()) fault(what + ": " + got.size() + " answers, due are " + want.size());
    }

    private void fault(String what) {
        wrong++;
        if (wrong <= 50) System.out.println(name + ":" + sentence + " " + what);
    }

    /** Feeds a text, as bytes 0 to 255, blanks behind it cut off again: what text() answers. */
    static int tell(WeatherChess x, String text) {
        feed(x, text);
        return x.text();
    }

    static void feed(WeatherChess x, String text) {
        int had = x.end(0);
        if (had < 0) throw new IllegalStateException("end(0) answered " + had);
        for (int i = 0; i < text.length(); i += 8) {
            long v = 0;
            for (int j = i; j < i + 8; j++) v = v << 8 | (j < text.length() ? text.charAt(j) & 255 : ' ');
            x.feed(v);
        }
        x.end(text.length());
    }

    /** A new object that has been told a text. */
    static WeatherChess told(String text) {
        WeatherChess x = new WeatherChess();
        int lines = tell(x, text);
        if (lines < 0) throw new IllegalStateException(text + " answered " + lines);
        return x;
    }

    /** CELLS of a SHEET from the first one on. */
    static void lay(WeatherChess x, int k, int... cells) {
        for (int i = 0; i < cells.length; i++) x.lay(k, i, cells[i]);
    }

    void close() {
        System.out.println(name + ": " + asked + " answers, " + wrong + " not as due");
        if (wrong != 0 || asked == 0) System.exit(1);
    }
}
