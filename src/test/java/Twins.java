/** Two objects that go the same way, one of which is asked a call more: it must tell the same as the other one. */
final class Twins {
    interface Way {
        void go(WeatherChess x);
    }

    interface Call {
        long of(WeatherChess x);
    }

    private final Check check;

    Twins(Check check) {
        this.check = check;
    }

    static WeatherChess gone(Way way) {
        WeatherChess x = new WeatherChess();
        way.go(x);
        return x;
    }

    /** The call answers as is due, and nothing is changed by it. */
    void keeps(String name, Way way, Call call, long due) {
        WeatherChess asked = gone(way);
        check.due(name, call.of(asked), due);
        check.same(name + " changes nothing", Readout.of(asked), Readout.of(gone(way)));
    }

    /** The call answers as is due, and nothing is changed by it but what fault() and torn() answer. */
    void keepsButFaults(String name, Way way, Call call, long due) {
        WeatherChess asked = gone(way);
        check.due(name, call.of(asked), due);
        check.same(name + " changes nothing", Readout.butFaults(asked), Readout.butFaults(gone(way)));
    }
}
