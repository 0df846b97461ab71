import java.util.List;
import java.util.function.Consumer;
import java.util.function.Supplier;

/**
 * Two objects made by the same calls, one of which gets a call more: they are shown, and then shown again
 * behind further calls, since the size, the tolerance, the watch, the number of terms and whether ADAMS
 * goes on are seen only in what comes later.
 */
final class Twins {
    private static final int EULER = 0;
    private static final int RUNGE = 1;
    private static final int PAIR = 2;
    private static final int ADAMS = 3;
    private static final int IMPLICIT = 4;
    private static final int T = 3;
    private static final int ONE = 4;

    /** All of two values, so that one list of wrong calls fits them all. */
    private static final List<Supplier<OdeBench>> STATES =
        List.of(Twins::fresh, Twins::running, Twins::valueSet, Twins::full);

    private static final List<Consumer<OdeBench>> FUTURES = List.of(
        x -> { },
        Twins::adamsTwice,
        x -> x.go(PAIR, x.time() + 1.5),
        Twins::fillTerms,
        Twins::goThroughTheLevel,
        Twins::climbThroughTheLevel,
        x -> x.step(IMPLICIT),
        x -> x.go(RUNGE, x.time() + 99.0));

    private Twins() {
    }

    static OdeBench bench(int n) {
        OdeBench x = new OdeBench();
        x.system(n);
        return x;
    }

    static OdeBench fresh() {
        return bench(2);
    }

    /** On its way with ADAMS: with terms, a watch, events, steps refused, a last step. */
    static OdeBench running() {
        OdeBench x = bench(2);
        x.term(0, 1.0, 1, ONE);
        x.term(1, -4.0, 0, ONE);
        x.term(1, 0.25, T, ONE);
        x.value(0, 1.0);
        x.value(1, 0.1);
        x.watch(0, 0.5);
        x.size(0.75, 0.01);
        x.go(PAIR, 9.0);
        x.size(0.25, 0.01);
        x.step(ADAMS);
        x.step(ADAMS);
        return x;
    }

    static OdeBench valueSet() {
        OdeBench x = running();
        x.value(1, 0.7);
        return x;
    }

    static OdeBench full() {
        OdeBench x = running();
        for (int k = 4; k <= 10; k++) {
            x.term(k % 2, 0.01 * k, k % 2, ONE);
        }
        x.step(ADAMS);
        x.step(ADAMS);
        return x;
    }

    private static void adamsTwice(OdeBench x) {
        x.step(ADAMS);
        x.step(ADAMS);
    }

    private static void fillTerms(OdeBench x) {
        for (int k = 0; k < 10; k++) {
            Check.thrownBy(() -> x.term(0, 0.125, ONE, ONE));
        }
        x.step(EULER);
    }

    private static void goThroughTheLevel(OdeBench x) {
        for (int i = 0; i < 2; i++) {
            int one = i;
            Check.thrownBy(() -> x.value(one, 0.4));
        }
        x.go(RUNGE, x.time() + 5.0);
    }

    /** Also where there was no term before: then only a watch that should be gone can see it. */
    private static void climbThroughTheLevel(OdeBench x) {
        Check.thrownBy(() -> x.term(0, 64.0, ONE, ONE));
        x.value(0, 0.4);
        x.step(EULER);
    }

    /** The call must throw this, and leave each of the states as it was. */
    static void unchanged(String call, Class<? extends RuntimeException> kind, Consumer<OdeBench> made) {
        for (Supplier<OdeBench> state : STATES) {
            unchanged(call, kind, state, made);
        }
    }

    static void unchanged(String call, Class<? extends RuntimeException> kind, Supplier<OdeBench> state,
            Consumer<OdeBench> made) {
        alike(call + " changes nothing", 0, () -> {
            OdeBench x = state.get();
            Check.refuses(call, kind, () -> made.accept(x));
            return x;
        }, state);
    }

    /** Both are as good as one, but that the first has refused so many steps more. */
    static void alike(String what, int refusedMore, Supplier<OdeBench> one, Supplier<OdeBench> other) {
        for (int k = 0; k < FUTURES.size(); k++) {
            OdeBench x = one.get();
            OdeBench y = other.get();
            Consumer<OdeBench> future = FUTURES.get(k);
            String thrownByX = Check.thrownBy(() -> future.accept(x));
            String thrownByY = Check.thrownBy(() -> future.accept(y));
            Check.due(what + " (future " + k + ")", thrownByX + "\n" + Picture.of(x, refusedMore),
                thrownByY + "\n" + Picture.of(y));
        }
    }
}
