import java.util.function.Supplier;

/** All that an object answers now, as one text: whatever a call changed that can be seen, it shows here. */
final class Picture {
    private static final double[] PLACES = {0.0, 0.25, 0.5, 1.0};

    private final StringBuilder text = new StringBuilder();

    private Picture() {
    }

    static String of(OdeBench x) {
        return of(x, 0);
    }

    /** The same, as if so many steps less had been refused. */
    static String of(OdeBench x, int refusedMore) {
        Picture all = new Picture();
        all.add("time", x::time);
        all.add("nextSize", x::nextSize);
        all.add("taken", () -> x.steps(false));
        all.add("refused", () -> x.steps(true) - refusedMore);
        all.add("events", x::events);
        for (int k = -1; k <= 8; k++) {
            int one = k;
            all.add("event " + k, () -> x.event(one));
        }
        for (int i = -1; i <= 3; i++) {
            int one = i;
            all.add("at " + i, () -> x.at(one));
            all.add("derivative " + i, () -> x.derivative(one));
            for (double m : PLACES) {
                all.add("between " + i + " " + m, () -> x.between(one, m));
            }
        }
        return all.text.toString();
    }

    private void add(String call, Supplier<Object> answer) {
        StringBuilder got = new StringBuilder();
        String thrown = Check.thrownBy(() -> got.append(answer.get()));
        text.append(call).append(": ").append(got.length() == 0 ? thrown : got).append('\n');
    }
}
