import java.util.ArrayList;
import java.util.List;

/**
 * What the calls that show something answer of an object: the game, what is SEEN and TOLD, the SHEETS, both IMAGES, THE
 * TAPE. The object is used up by it, for IMAGES and SHEETS show only by back() and read(). On a small board some 400 calls,
 * so that these and those ahead of them stay below the document's 512.
 */
final class Readout {
    private final WeatherChess x;
    private final List<String> told = new ArrayList<>();

    private Readout(WeatherChess x) {
        this.x = x;
    }

    static List<String> of(WeatherChess x) {
        Readout r = new Readout(x);
        r.show("fault", x.fault());
        r.show("torn", x.torn());
        for (int what = 3; what <= 5; what++) r.show("count " + what, x.count(what));
        r.game("now");
        r.sheets();
        for (int k = 0; k < 2; k++) {
            r.show("back " + k, x.back(k));
            r.game("image " + k);
        }
        r.show("text", x.text());
        r.show("fault of the text", x.fault());
        r.show("turn of the text", x.rule(4));
        return r.told;
    }

    /** The same, but for what fault() and torn() answer. */
    static List<String> butFaults(WeatherChess x) {
        List<String> all = of(x);
        all.removeIf(line -> line.startsWith("fault =") || line.startsWith("torn ="));
        return all;
    }

    private void show(String call, long answer) {
        told.add(call + " = " + answer);
    }

    private void game(String name) {
        for (int what = 0; what < 7; what++) show(name + " rule " + what, x.rule(what));
        for (int p = 0; p < x.rule(2); p++) {
            for (int what = 0; what < 4; what++) show(name + " piece " + p + " " + what, x.piece(p, what));
            show(name + " where " + p, x.where(p, 1));
        }
        for (int w = 0; w < 5; w++) {
            show(name + " odd " + w, x.odd(w));
            int n = x.moves(w);
            for (int k = 0; k < n; k++) show(name + " move " + w + " " + k, x.move(w, k));
        }
        seen(name);
        told(name);
    }

    private void seen(String name) {
        int n = x.count(1);
        show(name + " seen", n);
        for (int i = n; i >= 0; i--) {
            show(name + " forget " + i, x.forget(i));
            show(name + " fits of " + i, x.fits(0));
            show(name + " fits in one of " + i, x.fits(1));
        }
    }

    private void told(String name) {
        int n = x.count(2);
        show(name + " told", n);
        for (int i = n; i >= 0; i--) {
            show(name + " drop " + i, x.drop(i));
            for (int j = 0; j <= i; j++) show(name + " blow of " + i, x.blow(j == 0 ? 0 : 9 + j));
        }
    }

    private void sheets() {
        for (int k = 0; k < 4; k++) {
            for (int lane = 0; lane < 3; lane++) {
                for (int f = 0; f < 4; f += 2) {
                    show("read " + k + " " + lane + " " + f, x.read(k, lane, f, 1));
                    show("torn of it", x.torn());
                }
            }
            for (int i = 1; i < 8; i += 2) show("lay " + k + " " + i, x.lay(k, i, 0));
            show("lay last " + k, x.lay(k, 39, 0));
        }
        show("turns of the sheets", x.rule(5));
    }
}
