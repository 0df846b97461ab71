import java.util.NoSuchElementException;

/** Promise by promise: ordinary calls, the edges that the document names, and wrong inputs. */
public final class PromisesTest {
    private static final int EULER = 0;
    private static final int RUNGE = 1;
    private static final int PAIR = 2;
    private static final int ADAMS = 3;
    private static final int IMPLICIT = 4;
    private static final int MIDPOINTS = 5;
    private static final int T = 3;
    private static final int ONE = 4;
    private static final Class<IllegalArgumentException> BAD = IllegalArgumentException.class;
    private static final Class<IllegalStateException> FULL = IllegalStateException.class;
    private static final Class<ArithmeticException> FAILS = ArithmeticException.class;
    private static final Class<NoSuchElementException> NONE = NoSuchElementException.class;
    private static final double NAN = Double.NaN;
    private static final double ENDLESS = Double.POSITIVE_INFINITY;

    private PromisesTest() {
    }

    public static void main(String[] args) {
        newObject();
        newObjectTolerance();
        system();
        systemForgets();
        term();
        termFactors();
        value();
        size();
        sizeSetsBoth();
        stepEuler();
        stepRunge();
        stepPair();
        stepAdams();
        adamsEndsWithOtherThings();
        adamsOutlivesHarmlessCalls();
        stepImplicit();
        implicitExchangesRows();
        implicitFails();
        stepMidpoints();
        stepFails();
        stepFailsFromFarOut();
        stepAtTheLimit();
        wrongMethods();
        go();
        goWrong();
        goStops();
        goFails();
        goPairSizes();
        goPairEdges();
        goPairFails();
        goArrivesExactly();
        watch();
        watchReplaced();
        eventsBothWays();
        eventsKeepEight();
        eventSigns();
        at();
        derivative();
        between();
        betweenAfterwards();
        timeAndNextSize();
        steps();
        Check.end("PromisesTest");
    }

    private static OdeBench bench(int n) {
        OdeBench x = new OdeBench();
        x.system(n);
        return x;
    }

    /** One value that begins at v, with the derivative c * v. */
    private static OdeBench growth(double c, double v) {
        OdeBench x = new OdeBench();
        x.term(0, c, 0, ONE);
        x.value(0, v);
        return x;
    }

    private static void newObject() {
        OdeBench x = new OdeBench();
        Check.due("new: at(0)", x.at(0), 0.0);
        Check.refuses("new: at(1)", BAD, () -> x.at(1));
        Check.due("new: time()", x.time(), 0.0);
        Check.due("new: derivative(0)", x.derivative(0), 0.0);
        Check.due("new: nextSize()", x.nextSize(), 0.125);
        Check.due("new: events()", x.events(), 0);
        Check.refuses("new: event(0)", NONE, () -> x.event(0));
        Check.refuses("new: between(0, 0.5)", NONE, () -> x.between(0, 0.5));
        Check.due("new: steps(false)", x.steps(false), 0);
        Check.due("new: steps(true)", x.steps(true), 0);
        Check.due("new: the first term", x.term(0, -64.0, ONE, ONE), 1);
        x.value(0, 1.0);
        x.step(EULER);
        Check.due("new: the first step", x.at(0), -7.0);
        Check.due("new: no watch", x.events(), 0);
    }

    // With c * H = 1 the error of PAIR is y / 24, so that 0.125 lies at y = 3.
    private static void newObjectTolerance() {
        OdeBench below = growth(8.0, 2.9);
        Check.due("tolerance at first: go below it", below.go(PAIR, 0.125), 1);
        Check.due("tolerance at first: none refused", below.steps(true), 0);
        OdeBench above = growth(8.0, 3.1);
        Check.due("tolerance at first: go above it", above.go(PAIR, 0.125), 2);
        Check.due("tolerance at first: one refused", above.steps(true), 1);
        Check.due("tolerance at first: halved", above.nextSize(), 0.0625);
    }

    private static void system() {
        OdeBench x = new OdeBench();
        Check.refuses("system(0)", BAD, () -> x.system(0));
        Check.refuses("system(4)", BAD, () -> x.system(4));
        Check.refuses("system(-1)", BAD, () -> x.system(-1));
        Check.refuses("system(least)", BAD, () -> x.system(Integer.MIN_VALUE));
        Check.refuses("system(most)", BAD, () -> x.system(Integer.MAX_VALUE));
        for (int n = 1; n <= 3; n++) {
            x.system(n);
            for (int i = 0; i < n; i++) {
                Check.due("system(" + n + "): at(" + i + ")", x.at(i), 0.0);
            }
            int none = n;
            Check.refuses("system(" + n + "): at(n)", BAD, () -> x.at(none));
        }
    }

    private static void systemForgets() {
        OdeBench x = bench(3);
        x.term(2, 8.0, ONE, ONE);
        x.value(0, 5.0);
        x.value(2, -0.5);
        x.watch(2, 0.0);
        x.size(1.0, 0.5);
        x.step(EULER);
        x.value(2, 1000.0);
        x.term(2, 64.0, 2, 2);
        Check.refuses("before system: step", FAILS, () -> x.step(EULER));
        Check.due("before system: events", x.events(), 1);
        Check.refuses("system(9) changes nothing", BAD, () -> x.system(9));
        Check.due("before system: time", x.time(), 1.0);
        Check.due("before system: taken", x.steps(false), 1);
        Check.due("before system: refused", x.steps(true), 1);
        x.system(3);
        for (int i = 0; i < 3; i++) {
            Check.due("system: at", x.at(i), 0.0);
            Check.due("system: derivative", x.derivative(i), 0.0);
        }
        Check.due("system: time", x.time(), 0.0);
        Check.due("system: nextSize", x.nextSize(), 0.125);
        Check.due("system: events", x.events(), 0);
        Check.refuses("system: event", NONE, () -> x.event(0));
        Check.refuses("system: between", NONE, () -> x.between(0, 0.0));
        Check.due("system: taken", x.steps(false), 0);
        Check.due("system: refused", x.steps(true), 0);
        Check.due("system: terms begin again", x.term(2, 8.0, ONE, ONE), 1);
        x.value(2, -0.5);
        x.step(EULER);
        Check.due("system: the value went up", x.at(2), 0.5);
        Check.due("system: the watch is gone", x.events(), 0);
        Check.due("before another system: between", x.between(2, 0.0), -0.5);
        x.system(3);
        Check.refuses("another system: between", NONE, () -> x.between(2, 0.0));
        x.size(1.0, 4.0);
        x.system(1);
        x.term(0, 8.0, 0, ONE);
        x.value(0, 3.1);
        x.go(PAIR, 0.125);
        Check.due("system: the tolerance is as at first", x.steps(true), 1);
    }

    private static void term() {
        OdeBench x = bench(2);
        Check.refuses("term: i = -1", BAD, () -> x.term(-1, 1.0, 0, 0));
        Check.refuses("term: i = n", BAD, () -> x.term(2, 1.0, 0, 0));
        Check.refuses("term: a = -1", BAD, () -> x.term(0, 1.0, -1, 0));
        Check.refuses("term: a = n", BAD, () -> x.term(0, 1.0, 2, 0));
        Check.refuses("term: a = 5", BAD, () -> x.term(0, 1.0, 5, 0));
        Check.refuses("term: b = -1", BAD, () -> x.term(0, 1.0, 0, -1));
        Check.refuses("term: b = n", BAD, () -> x.term(0, 1.0, 0, 2));
        Check.refuses("term: b = 5", BAD, () -> x.term(0, 1.0, 0, 5));
        Check.refuses("term: c above", BAD, () -> x.term(0, Math.nextUp(64.0), 0, 0));
        Check.refuses("term: c below", BAD, () -> x.term(0, Math.nextDown(-64.0), 0, 0));
        Check.refuses("term: c is none", BAD, () -> x.term(0, NAN, 0, 0));
        Check.refuses("term: c without end", BAD, () -> x.term(0, -ENDLESS, 0, 0));
        Check.due("term: c = 64", x.term(0, 64.0, 0, 0), 1);
        Check.due("term: c = -64", x.term(1, -64.0, 1, 1), 2);
        for (int k = 3; k <= 10; k++) {
            Check.due("term " + k, x.term(k % 2, 0.0, T, ONE), k);
        }
        Check.refuses("term: an eleventh", FULL, () -> x.term(0, 0.0, 0, 0));
        Check.refuses("term: a wrong eleventh", BAD, () -> x.term(2, 0.0, 0, 0));
        x.value(0, 1.0);
        Check.due("term: refused ones are not there", x.derivative(0), 64.0);
    }

    private static void termFactors() {
        OdeBench x = bench(3);
        x.value(0, 2.0);
        x.value(1, 3.0);
        x.value(2, 5.0);
        x.step(EULER);
        x.term(0, 2.0, 0, 1);
        x.term(1, 4.0, 2, T);
        x.term(2, 7.0, ONE, T);
        x.term(2, 1.0, ONE, ONE);
        x.term(2, -1.0, 1, 1);
        Check.due("term: 2 y0 y1", x.derivative(0), 12.0);
        Check.due("term: 4 y2 t", x.derivative(1), 2.5);
        Check.due("term: 7 t + 1 - y1 y1", x.derivative(2), -7.125);
        // From left to right, and in the order in which they came: 1.0 is lost beside 1.0E17.
        OdeBench y = bench(3);
        y.value(0, 1000.0);
        y.term(1, 1.0, 0, 0);
        y.size(1.0, 1.0);
        y.step(EULER);
        y.value(0, 0.1);
        y.term(0, 0.7, 0, 1);
        Check.due("term: c * v(a) first", y.derivative(0), 0.7 * 0.1 * 1000000.0);
        y.term(2, 64.0, 1, 1);
        y.term(2, 1.0E-3, ONE, ONE);
        y.term(2, -64.0, 1, 1);
        Check.due("term: sums in order", y.derivative(2), 64.0E12 + 1.0E-3 - 64.0E12);
    }

    private static void value() {
        OdeBench x = bench(2);
        Check.refuses("value: i = -1", BAD, () -> x.value(-1, 0.0));
        Check.refuses("value: i = n", BAD, () -> x.value(2, 0.0));
        Check.refuses("value: above", BAD, () -> x.value(0, Math.nextUp(1000.0)));
        Check.refuses("value: below", BAD, () -> x.value(0, Math.nextDown(-1000.0)));
        Check.refuses("value: none", BAD, () -> x.value(0, NAN));
        Check.refuses("value: without end", BAD, () -> x.value(0, ENDLESS));
        Check.due("value: still", x.at(0), 0.0);
        x.value(0, 1000.0);
        x.value(1, -1000.0);
        Check.due("value: greatest", x.at(0), 1000.0);
        Check.due("value: least", x.at(1), -1000.0);
        x.step(EULER);
        x.value(1, 0.1);
        Check.due("value: the other stays", x.at(0), 1000.0);
        Check.due("value: set", x.at(1), 0.1);
        Check.due("value: the time stays", x.time(), 0.125);
        Check.due("value: the steps stay", x.steps(false), 1);
    }

    private static void size() {
        OdeBench x = new OdeBench();
        Check.refuses("size: h 0", BAD, () -> x.size(0.0, 1.0));
        Check.refuses("size: h below 0", BAD, () -> x.size(-0.125, 1.0));
        Check.refuses("size: h above 4", BAD, () -> x.size(Math.nextUp(4.0), 1.0));
        Check.refuses("size: h none", BAD, () -> x.size(NAN, 1.0));
        Check.refuses("size: h without end", BAD, () -> x.size(ENDLESS, 1.0));
        Check.refuses("size: tolerance 0", BAD, () -> x.size(1.0, 0.0));
        Check.refuses("size: tolerance below 0", BAD, () -> x.size(1.0, -1.0));
        Check.refuses("size: tolerance above 4", BAD, () -> x.size(1.0, Math.nextUp(4.0)));
        Check.refuses("size: tolerance none", BAD, () -> x.size(1.0, NAN));
        Check.due("size: still", x.nextSize(), 0.125);
        x.size(4.0, 4.0);
        Check.due("size: greatest", x.nextSize(), 4.0);
        x.size(Double.MIN_VALUE, Double.MIN_VALUE);
        Check.due("size: least", x.nextSize(), Double.MIN_VALUE);
        Check.fine("size: a step of the least", () -> x.step(RUNGE));
        Check.due("size: is used", x.time(), Double.MIN_VALUE);
    }

    private static void sizeSetsBoth() {
        OdeBench x = growth(8.0, 3.1);
        x.size(0.125, 0.2);
        Check.due("size: a greater tolerance", x.go(PAIR, 0.125), 1);
        OdeBench y = growth(8.0, 2.9);
        y.size(0.125, 0.1);
        Check.due("size: a smaller tolerance", y.go(PAIR, 0.125), 2);
        Check.due("size: a smaller tolerance refuses", y.steps(true), 1);
    }

    private static void stepEuler() {
        OdeBench x = growth(8.0, 8.0);
        x.step(EULER);
        Check.due("EULER", x.at(0), 16.0);
        Check.due("EULER: time", x.time(), 0.125);
        Check.due("EULER: nextSize", x.nextSize(), 0.125);
        OdeBench y = bench(2);
        y.term(0, 1.0, 1, T);
        y.term(1, -2.0, 0, ONE);
        y.value(0, 1.0);
        y.value(1, 4.0);
        y.size(0.5, 1.0);
        y.step(EULER);
        Check.due("EULER: y0", y.at(0), 1.0);
        Check.due("EULER: y1", y.at(1), 3.0);
        y.step(EULER);
        Check.due("EULER: y0 at t = 0.5", y.at(0), 1.75);
        Check.due("EULER: y1 from y0 before the step", y.at(1), 2.0);
    }

    private static void stepRunge() {
        OdeBench x = growth(1.0, 1.0);
        x.size(1.0, 1.0);
        x.step(RUNGE);
        // k1 = 1, k2 = 1.5, k3 = 1.75, k4 = 2.75
        Check.due("RUNGE", x.at(0), 1.0 + 1.0 / 6.0 * 10.25);
        OdeBench y = bench(1);
        y.term(0, 1.0, T, T);
        y.size(0.5, 1.0);
        y.step(EULER);
        y.step(RUNGE);
        // at t = 0.5, 0.75, 0.75, 1.0
        Check.due("RUNGE: times", y.at(0), 0.5 / 6.0 * (0.25 + 1.125 + 1.125 + 1.0));
        Check.due("RUNGE: time", y.time(), 1.0);
    }

    private static void stepPair() {
        OdeBench x = growth(8.0, 24.0);
        x.step(PAIR);
        // k1 = 192, k2 = 288, k3 = 8 * (24 + 0.09375 * 288) = 408: the error is far above 0.125
        Check.due("PAIR", x.at(0), 24.0 + 0.125 / 9.0 * (384.0 + 864.0 + 1632.0));
        Check.due("PAIR: taken whatever its error", x.steps(false), 1);
        Check.due("PAIR: not refused", x.steps(true), 0);
        Check.due("PAIR: h stays", x.nextSize(), 0.125);
        OdeBench y = bench(1);
        y.step(PAIR);
        Check.due("PAIR: h stays without an error too", y.nextSize(), 0.125);
        y.term(0, 1.0, T, T);
        y.size(1.0, 1.0);
        y.step(PAIR);
        Check.due("PAIR: times", y.at(0), 1.0 / 9.0 * (2.0 / 64.0 + 3.0 * 0.390625 + 4.0 * 0.765625));
    }

    private static void stepAdams() {
        OdeBench x = growth(1.0, 1.0);
        x.size(1.0, 1.0);
        OdeBench r = growth(1.0, 1.0);
        r.size(1.0, 1.0);
        r.step(RUNGE);
        x.step(ADAMS);
        Check.due("ADAMS: the first is RUNGE's", x.at(0), r.at(0));
        double y = x.at(0);
        double p = y + 1.0 * (1.5 * y - 0.5 * 1.0);
        x.step(ADAMS);
        Check.due("ADAMS: the second", x.at(0), y + 0.5 * 1.0 * (p + y));
        double g = y;
        double y2 = x.at(0);
        double p2 = y2 + 1.0 * (1.5 * y2 - 0.5 * g);
        x.step(ADAMS);
        Check.due("ADAMS: the third", x.at(0), y2 + 0.5 * 1.0 * (p2 + y2));
        OdeBench t = bench(1);
        t.term(0, 1.0, T, T);
        t.size(0.5, 1.0);
        t.step(ADAMS);
        double first = t.at(0);
        t.step(ADAMS);
        Check.due("ADAMS: times", t.at(0), first + 0.5 * 0.5 * (1.0 + 0.25));
    }

    private interface Between {
        void does(OdeBench x);
    }

    private static OdeBench onAdams() {
        OdeBench x = bench(2);
        x.term(0, 1.0, 0, T);
        x.term(0, 1.0, 0, ONE);
        x.term(1, 64.0, 0, 0);
        x.value(0, 1.0);
        x.size(0.25, 1.0);
        x.step(ADAMS);
        x.step(ADAMS);
        return x;
    }

    private static boolean nextIsRunge(Between between) {
        OdeBench x = onAdams();
        OdeBench same = onAdams();
        between.does(x);
        between.does(same);
        x.step(ADAMS);
        same.step(RUNGE);
        return x.at(0) == same.at(0);
    }

    private static void adamsEndsWithOtherThings() {
        for (int method = 0; method < 6; method++) {
            int other = method;
            Check.due("ADAMS behind a step of " + method, nextIsRunge(x -> x.step(other)), method != ADAMS);
        }
        Check.due("ADAMS behind another size", nextIsRunge(x -> x.size(0.5, 1.0)), true);
        Check.due("ADAMS behind a value", nextIsRunge(x -> x.value(1, 3.0)), true);
        Check.due("ADAMS behind the same value", nextIsRunge(x -> x.value(0, x.at(0))), true);
        Check.due("ADAMS behind a term", nextIsRunge(x -> x.term(1, 1.0, T, T)), true);
        Check.due("ADAMS behind a shorter step of going on",
            nextIsRunge(x -> x.go(ADAMS, x.time() + 0.125)), true);
        Check.due("ADAMS behind a system", nextIsRunge(x -> {
            x.system(1);
            x.term(0, 1.0, 0, T);
            x.value(0, 1.0);
            x.size(0.25, 1.0);
        }), true);
        Check.due("ADAMS behind a step that failed", nextIsRunge(x -> {
            x.size(4.0, 1.0);
            Check.refuses("a long step", FAILS, () -> x.step(RUNGE));
            x.size(0.25, 1.0);
        }), true);
        Check.due("ADAMS behind one of ADAMS that failed", nextIsRunge(x -> {
            x.size(4.0, 1.0);
            Check.refuses("a long step of ADAMS", FAILS, () -> x.step(ADAMS));
            x.size(0.25, 1.0);
        }), true);
        Check.due("ADAMS behind a step not taken for its error", nextIsRunge(x -> {
            x.size(4.0E-6, Double.MIN_VALUE);
            Check.refuses("going on with too small a tolerance", FAILS, () -> x.go(PAIR, x.time() + 1.0));
            x.size(0.25, 1.0);
        }), true);
    }

    private static void adamsOutlivesHarmlessCalls() {
        Check.due("ADAMS behind the same size", nextIsRunge(x -> x.size(0.25, 0.5)), false);
        Check.due("ADAMS behind another size and back", nextIsRunge(x -> {
            x.size(0.5, 0.5);
            x.size(0.25, 0.5);
        }), false);
        Check.due("ADAMS behind a watch", nextIsRunge(x -> x.watch(0, 1.0)), false);
        Check.due("ADAMS behind going on with ADAMS", nextIsRunge(x -> x.go(ADAMS, x.time() + 0.5)), false);
        Check.due("ADAMS behind questions", nextIsRunge(x -> {
            x.derivative(1);
            x.between(1, 0.5);
            x.steps(true);
        }), false);
        Check.due("ADAMS behind refused calls", nextIsRunge(x -> {
            Check.refuses("step(6)", BAD, () -> x.step(6));
            Check.refuses("value(0, 1001.0)", BAD, () -> x.value(0, 1001.0));
            Check.refuses("term(0, 65.0, 0, 0)", BAD, () -> x.term(0, 65.0, 0, 0));
            Check.refuses("system(0)", BAD, () -> x.system(0));
            Check.refuses("go(0, 0.0)", BAD, () -> x.go(0, 0.0));
        }), false);
    }

    private static void stepImplicit() {
        OdeBench x = growth(-8.0, 8.0);
        x.step(IMPLICIT);
        Check.due("IMPLICIT: linear", x.at(0), 4.0);
        OdeBench t = bench(1);
        t.term(0, 8.0, T, ONE);
        t.step(IMPLICIT);
        Check.due("IMPLICIT: at the end's time", t.at(0), 0.125);
        // z + z * z / 4 = 3 has the root 2
        OdeBench s = bench(1);
        s.term(0, -2.0, 0, 0);
        s.value(0, 3.0);
        s.step(IMPLICIT);
        double z = 3.0;
        for (int k = 0; k < 8; k++) {
            double r = z - 3.0 - 0.125 * (-2.0 * z * z);
            double d = r / (1.0 - 0.125 * (-2.0 * z + -2.0 * z));
            z = z - d;
            if (Math.abs(d) <= 1.0E-9) {
                break;
            }
        }
        Check.due("IMPLICIT: not linear", s.at(0), z);
        Check.due("IMPLICIT: near the root", Math.abs(s.at(0) - 2.0) < 1.0E-12, true);
        // the first change is 1.0E-9, so that there is no second one
        OdeBench once = bench(1);
        once.term(0, 64.0, 0, 0);
        once.term(0, 1.0E-9, ONE, ONE);
        once.size(1.0, 1.0);
        once.step(IMPLICIT);
        Check.due("IMPLICIT: a change of 1.0E-9 is not above", once.at(0), 1.0E-9);
        once.system(1);
        once.term(0, 64.0, 0, 0);
        once.term(0, 1.1E-9, ONE, ONE);
        once.size(1.0, 1.0);
        once.step(IMPLICIT);
        Check.due("IMPLICIT: a change of 1.1E-9 is above", once.at(0) > 1.1E-9, true);
    }

    private static void implicitExchangesRows() {
        // M is 0 in its first corner: only the other row can be divided by.
        OdeBench x = bench(2);
        x.term(0, 1.0, 0, ONE);
        x.term(0, 2.0, 1, ONE);
        x.term(1, 4.0, 0, ONE);
        x.value(0, 8.0);
        x.value(1, 16.0);
        x.size(1.0, 1.0);
        x.step(IMPLICIT);
        // z0 = 8 + z0 + 2 z1, z1 = 16 + 4 z0
        Check.due("IMPLICIT: exchanged, z0", x.at(0), -5.0);
        Check.due("IMPLICIT: exchanged, z1", x.at(1), -4.0);
        // each value is driven by the next one, so that two exchanges are needed
        OdeBench y = bench(3);
        y.term(0, 1.0, 0, ONE);
        y.term(1, 1.0, 1, ONE);
        y.term(2, 1.0, 2, ONE);
        y.term(0, 1.0, 1, ONE);
        y.term(1, 1.0, 2, ONE);
        y.term(2, 1.0, 0, ONE);
        y.value(0, 1.0);
        y.value(1, 2.0);
        y.value(2, 3.0);
        y.size(1.0, 1.0);
        y.step(IMPLICIT);
        Check.due("IMPLICIT: three rows, z0", y.at(0), -3.0);
        Check.due("IMPLICIT: three rows, z1", y.at(1), -1.0);
        Check.due("IMPLICIT: three rows, z2", y.at(2), -2.0);
    }

    private static void implicitFails() {
        OdeBench flat = growth(8.0, 0.0);
        Check.refuses("IMPLICIT: nothing to divide by", FAILS, () -> flat.step(IMPLICIT));
        Check.due("IMPLICIT: counted", flat.steps(true), 1);
        Check.due("IMPLICIT: the time stays", flat.time(), 0.0);
        OdeBench below = growth(8.0, 0.0);
        below.size((1.0 - 0.999999E-9) / 8.0, 1.0);
        Check.refuses("IMPLICIT: just too flat", FAILS, () -> below.step(IMPLICIT));
        OdeBench above = growth(8.0, 0.0);
        above.size((1.0 - 1.000001E-9) / 8.0, 1.0);
        Check.fine("IMPLICIT: just steep enough", () -> above.step(IMPLICIT));
        // M has the rows 0, -1 and 1.0E-9, 1
        OdeBench edge = bench(2);
        edge.term(0, 1.0, 0, ONE);
        edge.term(0, 1.0, 1, ONE);
        edge.term(1, -1.0E-9, 0, ONE);
        edge.size(1.0, 1.0);
        Check.fine("IMPLICIT: 1.0E-9 is not below", () -> edge.step(IMPLICIT));
        // z = 72 + z * z has no root
        OdeBench rootless = bench(1);
        rootless.term(0, 8.0, 0, 0);
        rootless.value(0, 72.0);
        Check.refuses("IMPLICIT: eight times are not enough", FAILS, () -> rootless.step(IMPLICIT));
        Check.due("IMPLICIT: the value stays", rootless.at(0), 72.0);
        // z = 1000 + (1 - 2^-10) z: the root lies above 1.0E6
        OdeBench far = growth(1.0, 1000.0);
        far.size(1.0 - 0x1p-10, 1.0);
        Check.refuses("IMPLICIT: too far", FAILS, () -> far.step(IMPLICIT));
        OdeBench near = growth(1.0, 900.0);
        near.size(1.0 - 0x1p-10, 1.0);
        Check.fine("IMPLICIT: not too far", () -> near.step(IMPLICIT));
        Check.due("IMPLICIT: far", near.at(0), 921600.0);
    }

    private static void stepMidpoints() {
        OdeBench x = growth(1.0, 1.0);
        x.size(1.0, 1.0);
        x.step(MIDPOINTS);
        // m = 2: 1, 1.5, 2.5: 0.5 * (2.5 + 1.5 + 1.25); m = 4: 1, 1.25, 1.625, 2.0625, 2.65625
        double e2 = 0.5 * (2.5 + 1.5 + 0.5 * 2.5);
        double e4 = 0.5 * (2.65625 + 2.0625 + 0.25 * 2.65625);
        Check.due("MIDPOINTS", x.at(0), e4 + (e4 - e2) / 3.0);
        OdeBench t = bench(1);
        t.term(0, 1.0, T, T);
        t.size(1.0, 1.0);
        t.step(MIDPOINTS);
        double f2 = 0.5 * (0.25 + 0.0 + 0.5);
        double f4 = 0.5 * ((0.5 * 0.0625 + 0.5 * 0.5625) + 0.5 * 0.25 + 0.25);
        Check.due("MIDPOINTS: times", t.at(0), f4 + (f4 - f2) / 3.0);
        t.value(0, 0.0);
        t.step(MIDPOINTS);
        double g2 = 0.5 * (2.25 + 0.5 + 0.5 * 4.0);
        double g4 = 0.5 * ((0.5 * 1.5625 + 0.5 * 3.0625) + (0.25 + 0.5 * 2.25) + 0.25 * 4.0);
        Check.due("MIDPOINTS: later times", t.at(0), g4 + (g4 - g2) / 3.0);
    }

    private static void stepFails() {
        for (int method = 0; method < 6; method++) {
            int one = method;
            OdeBench x = bench(2);
            x.term(1, 64.0, 1, 1);
            x.value(1, 1000.0);
            x.value(0, 7.0);
            Check.refuses("step(" + method + ") far out", FAILS, () -> x.step(one));
            Check.due("a failed step: y0", x.at(0), 7.0);
            Check.due("a failed step: y1", x.at(1), 1000.0);
            Check.due("a failed step: time", x.time(), 0.0);
            Check.due("a failed step: nextSize", x.nextSize(), 0.125);
            Check.due("a failed step: taken", x.steps(false), 0);
            Check.due("a failed step: refused", x.steps(true), 1);
            Check.refuses("a failed step: between", NONE, () -> x.between(0, 0.5));
        }
        OdeBench down = bench(1);
        down.term(0, -64.0, 0, 0);
        down.value(0, 1000.0);
        down.size(0.5, 1.0);
        Check.refuses("step(0) far down", FAILS, () -> down.step(EULER));
    }

    // The steepest system that there can be, from as far out as a step can lead: all numbers stay finite.
    private static void stepFailsFromFarOut() {
        for (double c = -64.0; c <= 64.0; c += 128.0) {
            OdeBench x = bench(1);
            x.term(0, 64.0, 0, 0);
            x.value(0, 1000.0);
            x.size(0.0156, 1.0);
            x.step(EULER);
            for (int k = 2; k <= 10; k++) {
                x.term(0, c, 0, 0);
            }
            Check.due("far out", x.at(0) > 999000.0, true);
            x.size(4.0, 4.0);
            for (int method = 0; method < 6; method++) {
                int one = method;
                Check.refuses("step(" + method + ") from far out", FAILS, () -> x.step(one));
                Check.refuses("go(" + method + ") from far out", FAILS, () -> x.go(one, 9.0));
            }
            Check.due("from far out: all failed", x.steps(true), 12);
        }
    }

    private static void stepAtTheLimit() {
        OdeBench x = bench(2);
        x.term(0, 1.0, 1, 1);
        x.value(1, -1000.0);
        x.size(1.0, 1.0);
        Check.fine("a step to 1.0E6", () -> x.step(EULER));
        Check.due("1.0E6 is not above", x.at(0), 1.0E6);
        Check.refuses("a step beyond 1.0E6", FAILS, () -> x.step(EULER));
        OdeBench y = bench(2);
        y.term(0, -1.0, 1, 1);
        y.term(0, -0.5, ONE, ONE);
        y.value(1, 1000.0);
        y.size(1.0, 1.0);
        Check.refuses("a step below -1.0E6", FAILS, () -> y.step(EULER));
    }

    private static void wrongMethods() {
        OdeBench x = growth(1.0, 1.0);
        int[] none = {-1, 6, Integer.MIN_VALUE, Integer.MAX_VALUE};
        for (int method : none) {
            Check.refuses("step(" + method + ")", BAD, () -> x.step(method));
            Check.refuses("go(" + method + ", 1.0)", BAD, () -> x.go(method, 1.0));
        }
        Check.due("no such method: nothing is counted", x.steps(true) + x.steps(false), 0);
        Check.due("no such method: the time stays", x.time(), 0.0);
    }

    private static void go() {
        OdeBench x = growth(8.0, 1.0);
        Check.due("go(EULER, 0.25)", x.go(EULER, 0.25), 2);
        Check.due("go: doubled twice", x.at(0), 4.0);
        Check.due("go: time", x.time(), 0.25);
        Check.due("go: a shorter last step", x.go(EULER, 0.4375), 2);
        Check.due("go: doubled and half as much again", x.at(0), 12.0);
        Check.due("go: time behind a shorter step", x.time(), 0.4375);
        Check.due("go: h is kept", x.nextSize(), 0.125);
        Check.due("go: one shorter step", x.go(EULER, 0.5), 1);
        Check.due("go: steps", x.steps(false), 5);
        for (int method = 0; method < 6; method++) {
            OdeBench y = growth(-1.0, 1.0);
            y.size(0.25, 4.0);
            OdeBench single = growth(-1.0, 1.0);
            single.size(0.25, 4.0);
            if (method == PAIR) {
                continue;
            }
            y.go(method, 1.0);
            for (int k = 0; k < 4; k++) {
                single.step(method);
            }
            Check.due("go(" + method + ") is four steps", y.at(0), single.at(0));
        }
    }

    private static void goWrong() {
        OdeBench x = growth(1.0, 0.0);
        x.size(4.0, 1.0);
        Check.refuses("go to now", BAD, () -> x.go(EULER, 0.0));
        Check.refuses("go back", BAD, () -> x.go(EULER, -1.0));
        Check.refuses("go nowhere", BAD, () -> x.go(EULER, NAN));
        Check.refuses("go without end", BAD, () -> x.go(EULER, ENDLESS));
        Check.refuses("go too far", BAD, () -> x.go(EULER, Math.nextUp(100.0)));
        Check.due("go: nothing was done", x.steps(false), 0);
        Check.due("go as far as can be", x.go(EULER, 100.0), 25);
        Check.refuses("go too far from there", BAD, () -> x.go(EULER, 200.5));
        Check.due("go as far as can be from there", x.go(EULER, 200.0), 25);
        Check.refuses("go back from there", BAD, () -> x.go(EULER, 199.0));
    }

    private static void goStops() {
        OdeBench x = growth(0.0, 1.0);
        Check.due("go: 100 steps are enough", x.go(EULER, 12.5), 100);
        Check.refuses("go: 100 steps are not enough", FAILS, () -> x.go(EULER, 25.125));
        Check.due("go: what was done stays", x.time(), 25.0);
        Check.due("go: steps that were taken", x.steps(false), 200);
        Check.due("go: to stop is not to refuse", x.steps(true), 0);
        Check.due("go: the rest", x.go(EULER, 25.125), 1);
        OdeBench still = growth(0.0, 1.0);
        still.size(1.0, 1.0);
        still.step(EULER);
        still.size(1.0E-300, 1.0);
        Check.refuses("go: steps that lead nowhere", FAILS, () -> still.go(MIDPOINTS, 2.0));
        Check.due("go: still there", still.time(), 1.0);
        Check.due("go: steps that led nowhere", still.steps(false), 101);
    }

    private static void goFails() {
        OdeBench x = growth(8.0, 1000.0);
        Check.refuses("go: a step fails", FAILS, () -> x.go(EULER, 10.0));
        Check.due("go: nine steps before it", x.steps(false), 9);
        Check.due("go: one failed", x.steps(true), 1);
        Check.due("go: the value before it", x.at(0), 512000.0);
        Check.due("go: the time before it", x.time(), 1.125);
        Check.refuses("go: it fails again", FAILS, () -> x.go(EULER, 10.0));
        Check.due("go: two failed", x.steps(true), 2);
        // far out PAIR fails, however small a step could be
        Check.refuses("go: PAIR fails", FAILS, () -> x.go(PAIR, 10.0));
        Check.due("go: PAIR's size stays", x.nextSize(), 0.125);
        Check.due("go: three failed", x.steps(true), 3);
    }

    private static void goPairSizes() {
        OdeBench x = bench(1);
        Check.due("go(PAIR): without an error", x.go(PAIR, 0.375), 2);
        Check.due("go(PAIR): doubled twice", x.nextSize(), 0.5);
        Check.due("go(PAIR): doubled again", x.go(PAIR, 0.875), 1);
        Check.due("go(PAIR): up to 1.0", x.nextSize(), 1.0);
        Check.due("go(PAIR): at 1.0", x.go(PAIR, 3.875), 3);
        Check.due("go(PAIR): not above 1.0", x.nextSize(), 1.0);
        Check.due("go(PAIR): a shorter step", x.go(PAIR, 4.0), 1);
        Check.due("go(PAIR): twice the shorter step", x.nextSize(), 0.25);
        x.size(0.75, 1.0);
        Check.due("go(PAIR): from 0.75", x.go(PAIR, 4.75), 1);
        Check.due("go(PAIR): from 0.75 to 1.0", x.nextSize(), 1.0);
        x.size(4.0, 1.0);
        Check.due("go(PAIR): from 4.0", x.go(PAIR, 8.75), 1);
        Check.due("go(PAIR): from 4.0 to 1.0", x.nextSize(), 1.0);
    }

    // With the derivative c * t * t a step of H from 0.0 has the error H / 72.0 * 3.0 * c * H * H.
    private static void goPairEdges() {
        double error = 1.0 / 72.0 * 192.0;
        OdeBench same = squares(64.0, 1.0, error);
        Check.due("error = tolerance: taken", same.go(PAIR, 1.0), 1);
        Check.due("error = tolerance: none refused", same.steps(true), 0);
        Check.due("error = tolerance: h stays", same.nextSize(), 1.0);
        OdeBench above = squares(64.0, 1.0, Math.nextDown(error));
        above.go(PAIR, 1.0);
        Check.due("error above the tolerance: refused", above.steps(true), 1);
        Check.due("error above the tolerance: halved", above.nextSize(), 0.5);
        double small = 0.25 / 72.0 * 12.0;
        OdeBench sixteenth = squares(64.0, 0.25, 16.0 * small);
        sixteenth.go(PAIR, 0.25);
        Check.due("error = tolerance / 16: h stays", sixteenth.nextSize(), 0.25);
        OdeBench below = squares(64.0, 0.25, Math.nextUp(16.0 * small));
        below.go(PAIR, 0.25);
        Check.due("error below tolerance / 16: doubled", below.nextSize(), 0.5);
        OdeBench shorter = squares(64.0, 4.0, 16.0 * small);
        shorter.go(PAIR, 0.25);
        Check.due("a shorter step, error = tolerance / 16: h stays", shorter.nextSize(), 4.0);
        OdeBench halved = squares(64.0, 4.0, 1.0);
        halved.go(PAIR, 1.0);
        Check.due("a shorter step refused: half of that step", halved.steps(true), 1);
    }

    private static OdeBench squares(double c, double h, double tolerance) {
        OdeBench x = bench(1);
        x.term(0, c, T, T);
        x.size(h, tolerance);
        return x;
    }

    private static void goPairFails() {
        OdeBench x = growth(8.0, 24.0);
        x.size(0.125, 1.0E-30);
        Check.refuses("PAIR: too small a step", FAILS, () -> x.go(PAIR, 1.0));
        Check.due("PAIR: nothing taken", x.steps(false), 0);
        // 0.125 / 2^16 is the last that is not below 1.0E-6
        Check.due("PAIR: refused", x.steps(true), 17);
        Check.due("PAIR: the size it came to", x.nextSize(), 0.125 / 131072.0);
        Check.due("PAIR: the time stays", x.time(), 0.0);
        Check.due("PAIR: the value stays", x.at(0), 24.0);
        OdeBench edge = growth(8.0, 24.0);
        edge.size(2.0E-6, Double.MIN_VALUE);
        Check.refuses("PAIR: 1.0E-6 is not below", FAILS, () -> edge.go(PAIR, 1.0));
        Check.due("PAIR: so it is tried", edge.steps(true), 2);
        // a step below 1.0E-6 is fine as long as it need not be halved
        OdeBench small = bench(1);
        small.size(1.0E-7, 1.0);
        Check.due("PAIR: a small step that is taken", small.go(PAIR, 1.0E-7), 1);
        // refused steps count among the 100
        OdeBench many = growth(64.0, 1.0E-3);
        many.size(4.0E-5, 1.0E-13);
        Check.refuses("PAIR: 100 tries", FAILS, () -> many.go(PAIR, 1.0));
        Check.due("PAIR: 100 tries in all", many.steps(true) + many.steps(false), 100);
        Check.due("PAIR: some of them refused", many.steps(true) > 0, true);
    }

    private static void goArrivesExactly() {
        OdeBench x = growth(0.5, 1.0);
        x.size(0.1, 1.0);
        double[] times = {0.35, 0.7, 1.0, 1.05, 3.3, 3.3000000000000003, 7.77};
        for (double time : times) {
            x.go(RUNGE, time);
            Check.due("go(1, " + time + "): time", x.time(), time);
        }
        // 0.03 + (0.3 - 0.03) is rounded past 0.3
        OdeBench y = bench(1);
        y.term(0, 1.0, T, ONE);
        y.size(0.03, 1.0);
        y.step(EULER);
        y.size(4.0, 1.0);
        Check.due("go: one step", y.go(EULER, 0.3), 1);
        Check.due("go: exactly there", y.time(), 0.3);
        Check.due("go: by the time less t", y.at(0), 0.0 + (0.3 - 0.03) * 0.03);
        Check.due("go: the derivative there", y.derivative(0), 0.3);
    }

    private static void watch() {
        OdeBench x = bench(2);
        Check.refuses("watch: e = -1", BAD, () -> x.watch(-1, 0.0));
        Check.refuses("watch: e = n", BAD, () -> x.watch(2, 0.0));
        Check.refuses("watch: above", BAD, () -> x.watch(0, Math.nextUp(1000.0)));
        Check.refuses("watch: below", BAD, () -> x.watch(0, Math.nextDown(-1000.0)));
        Check.refuses("watch: none", BAD, () -> x.watch(0, NAN));
        Check.refuses("watch: without end", BAD, () -> x.watch(0, -ENDLESS));
        x.term(0, 8.0, ONE, ONE);
        x.value(0, -0.5);
        x.step(EULER);
        Check.due("watch: a refused one is none", x.events(), 0);
        Check.fine("watch: greatest", () -> x.watch(1, 1000.0));
        Check.fine("watch: least", () -> x.watch(0, -1000.0));
        x.step(EULER);
        Check.due("watch: not at that level", x.events(), 0);
        x.watch(0, 2.0);
        x.step(EULER);
        Check.due("watch: at the level 2.0", x.events(), 1);
        x.step(EULER);
        Check.due("watch: once", x.events(), 1);
    }

    private static void watchReplaced() {
        OdeBench x = bench(2);
        x.term(0, 8.0, ONE, ONE);
        x.term(1, -8.0, ONE, ONE);
        x.value(0, -0.5);
        x.value(1, 2.5);
        x.watch(0, 0.0);
        x.step(EULER);
        Check.due("watch: y0 went through", x.events(), 1);
        double first = x.event(0);
        x.watch(1, 1.0);
        Check.due("watch: events stay", x.events(), 1);
        Check.due("watch: their times stay", x.event(0), first);
        x.step(EULER);
        Check.due("watch: y1 went through", x.events(), 2);
        Check.due("watch: the earlier one", x.event(1), first);
        Check.refuses("watch: a wrong one", BAD, () -> x.watch(2, 0.0));
        x.value(1, 1.5);
        x.step(EULER);
        Check.due("watch: the one before stays behind a wrong one", x.events(), 3);
        x.value(0, -0.5);
        x.value(1, 9.0);
        x.step(EULER);
        Check.due("watch: y0 is not watched any more", x.events(), 3);
        x.value(1, 0.5);
        Check.due("watch: a value set is no step", x.events(), 3);
    }

    /** The document's search, for a value that goes along a straight line. */
    private static double straight(double t, double h, double y, double slope, double level) {
        double l = 0.0;
        double r = 1.0;
        double m = 0.0;
        double z = y + h * slope;
        boolean above = y - level >= 0.0;
        for (int k = 0; k < 20; k++) {
            m = 0.5 * (l + r);
            double v = (1.0 + 2.0 * m) * (1.0 - m) * (1.0 - m) * y + m * (1.0 - m) * (1.0 - m) * h * slope
                + m * m * (3.0 - 2.0 * m) * z + m * m * (m - 1.0) * h * slope;
            if (v - level >= 0.0 == above) {
                l = m;
            } else {
                r = m;
            }
        }
        return t + m * h;
    }

    private static void eventsBothWays() {
        OdeBench x = bench(1);
        x.term(0, 8.0, ONE, ONE);
        x.value(0, -0.3);
        x.watch(0, 0.0);
        x.step(EULER);
        Check.due("event: upwards", x.event(0), straight(0.0, 0.125, -0.3, 8.0, 0.0));
        Check.due("event: about there", Math.abs(x.event(0) - 0.0375) < 1.0E-6, true);
        x.system(1);
        x.term(0, -8.0, ONE, ONE);
        x.value(0, 0.7);
        x.watch(0, 0.5);
        x.size(1.0, 1.0);
        x.step(EULER);
        Check.due("event: downwards", x.event(0), straight(0.0, 1.0, 0.7, -8.0, 0.5));
        x.value(0, 0.9);
        x.step(RUNGE);
        Check.due("event: from a later time", Math.abs(x.event(0) - 1.05) < 1.0E-5, true);
        OdeBench g = bench(1);
        g.term(0, 1.0, ONE, ONE);
        g.size(0.5, 1.0);
        g.value(0, -0.9);
        g.watch(0, 0.0);
        Check.due("event: going on", g.go(EULER, 0.95), 2);
        double y = -0.9 + 0.5;
        Check.due("event: in a shorter step", g.event(0), straight(0.5, 0.95 - 0.5, y, 1.0, 0.0));
    }

    private static void eventsKeepEight() {
        OdeBench x = bench(1);
        x.term(0, -16.0, 0, ONE);
        x.value(0, 1.0);
        x.watch(0, 0.0);
        // each step turns the value's sign
        for (int k = 1; k <= 11; k++) {
            x.step(EULER);
            Check.due("events", x.events(), k);
            int kept = Math.min(k, 8);
            for (int j = 0; j < kept; j++) {
                double begin = (k - 1 - j) * 0.125;
                boolean within = x.event(j) > begin && x.event(j) < begin + 0.125;
                Check.due("event(" + j + ") of " + k, within, true);
            }
            Check.refuses("event(" + kept + ") of " + k, NONE, () -> x.event(kept));
        }
        Check.refuses("event(-1)", NONE, () -> x.event(-1));
        Check.refuses("event(8)", NONE, () -> x.event(8));
        Check.refuses("event(least)", NONE, () -> x.event(Integer.MIN_VALUE));
        Check.refuses("event(most)", NONE, () -> x.event(Integer.MAX_VALUE));
        OdeBench many = bench(1);
        many.term(0, -16.0, 0, ONE);
        many.value(0, 1.0);
        many.watch(0, 0.0);
        Check.due("events: going on", many.go(EULER, 12.5), 100);
        Check.due("events: all are counted", many.events(), 100);
        Check.due("events: the latest", many.event(0) > 12.375 && many.event(0) < 12.5, true);
        Check.due("events: the eighth latest", many.event(7) > 11.5 && many.event(7) < 11.625, true);
    }

    private static void eventSigns() {
        OdeBench x = bench(1);
        x.term(0, 8.0, ONE, ONE);
        x.watch(0, 0.0);
        x.step(EULER);
        Check.due("from 0.0 upwards: no event", x.events(), 0);
        x.value(0, -1.0);
        x.step(EULER);
        Check.due("up to 0.0: an event", x.events(), 1);
        Check.due("up to 0.0: at the end", x.event(0) > 0.2499, true);
        x.step(EULER);
        Check.due("on from 0.0: no event", x.events(), 1);
        OdeBench y = bench(1);
        y.term(0, -8.0, ONE, ONE);
        y.value(0, 1.0);
        y.watch(0, 0.0);
        y.step(EULER);
        Check.due("down to 0.0: no event", y.events(), 0);
        y.step(EULER);
        Check.due("down from 0.0: an event", y.events(), 1);
        Check.due("down from 0.0: at its beginning", y.event(0), straight(0.125, 0.125, 0.0, -8.0, 0.0));
        OdeBench failed = bench(1);
        failed.term(0, -64.0, 0, 0);
        failed.value(0, 1000.0);
        failed.watch(0, 0.0);
        Check.refuses("a failed step", FAILS, () -> failed.step(EULER));
        Check.due("a failed step: no event", failed.events(), 0);
    }

    private static void at() {
        OdeBench x = bench(2);
        x.value(0, 0.1);
        x.value(1, -0.2);
        Check.due("at(0)", x.at(0), 0.1);
        Check.due("at(1)", x.at(1), -0.2);
        Check.refuses("at(-1)", BAD, () -> x.at(-1));
        Check.refuses("at(2)", BAD, () -> x.at(2));
        Check.refuses("at(3)", BAD, () -> x.at(3));
        Check.refuses("at(least)", BAD, () -> x.at(Integer.MIN_VALUE));
        Check.refuses("at(most)", BAD, () -> x.at(Integer.MAX_VALUE));
    }

    private static void derivative() {
        OdeBench x = bench(2);
        x.term(0, 2.0, 1, T);
        x.value(1, 3.0);
        Check.due("derivative: at 0.0", x.derivative(0), 0.0);
        x.step(EULER);
        Check.due("derivative: now", x.derivative(0), 0.75);
        Check.due("derivative: without terms", x.derivative(1), 0.0);
        x.value(1, 5.0);
        Check.due("derivative: of the value now", x.derivative(0), 1.25);
        x.term(0, 1.0, ONE, ONE);
        Check.due("derivative: with one more term", x.derivative(0), 2.25);
        Check.refuses("derivative(-1)", BAD, () -> x.derivative(-1));
        Check.refuses("derivative(2)", BAD, () -> x.derivative(2));
        Check.refuses("derivative(3)", BAD, () -> x.derivative(3));
    }

    private static void between() {
        OdeBench x = bench(2);
        x.term(0, 8.0, T, T);
        x.term(1, -1.0, 0, 1);
        x.value(0, 3.0);
        x.value(1, 2.0);
        x.size(0.5, 1.0);
        x.step(EULER);
        x.step(EULER);
        // the second step leads from 0.5 to 1.0: y0 from 3 to 4, its slope from 2 to 8
        Check.due("between: the beginning", x.between(0, 0.0), 3.0);
        Check.due("between: the end", x.between(0, 1.0), 4.0);
        Check.due("between: the middle", x.between(0, 0.5),
            0.5 * 3.0 + 0.125 * 0.5 * 2.0 + 0.5 * 4.0 - 0.125 * 0.5 * 8.0);
        Check.due("between: a quarter", x.between(0, 0.25), 1.5 * 0.75 * 0.75 * 3.0
            + 0.25 * 0.75 * 0.75 * 0.5 * 2.0 + 0.0625 * 2.5 * 4.0 + 0.0625 * -0.75 * 0.5 * 8.0);
        Check.due("between: y1 from -1.0", x.between(1, 0.0), -1.0);
        Check.due("between: y1 to 0.5", x.between(1, 1.0), 0.5);
        Check.refuses("between: m below", BAD, () -> x.between(0, -0.001));
        Check.refuses("between: m above", BAD, () -> x.between(0, Math.nextUp(1.0)));
        Check.refuses("between: m none", BAD, () -> x.between(0, NAN));
        Check.refuses("between: i = -1", BAD, () -> x.between(-1, 0.5));
        Check.refuses("between: i = n", BAD, () -> x.between(2, 0.5));
        OdeBench fresh = bench(1);
        Check.refuses("between: wrong before there is a step", BAD, () -> fresh.between(1, 0.5));
        Check.refuses("between: wrong m before there is a step", BAD, () -> fresh.between(0, 1.5));
        Check.refuses("between: before there is a step", NONE, () -> fresh.between(0, 0.5));
    }

    private static void betweenAfterwards() {
        OdeBench x = growth(8.0, 1.0);
        x.step(EULER);
        x.size(4.0, 1.0);
        x.watch(0, 0.0);
        Check.due("between: behind size and watch", x.between(0, 0.0), 1.0);
        Check.refuses("a wrong value", BAD, () -> x.value(0, 1001.0));
        Check.refuses("a wrong term", BAD, () -> x.term(0, 65.0, 0, 0));
        Check.due("between: behind wrong calls", x.between(0, 1.0), 2.0);
        x.value(0, 2.0);
        Check.refuses("between: behind a value", NONE, () -> x.between(0, 0.5));
        x.step(EULER);
        Check.due("between: behind a new step", x.between(0, 0.0), 2.0);
        x.term(0, 64.0, 0, 0);
        Check.refuses("between: behind a term", NONE, () -> x.between(0, 0.5));
        x.size(0.0009765625, 1.0);
        x.step(EULER);
        double kept = x.between(0, 0.5);
        x.size(4.0, 1.0);
        Check.refuses("between: a failed step", FAILS, () -> x.step(RUNGE));
        Check.due("between: behind a failed step", x.between(0, 0.5), kept);
        OdeBench full = growth(1.0, 1.0);
        for (int k = 2; k <= 10; k++) {
            full.term(0, 0.0, 0, 0);
        }
        full.step(EULER);
        Check.refuses("an eleventh term", FULL, () -> full.term(0, 0.0, 0, 0));
        Check.due("between: behind an eleventh term", full.between(0, 0.0), 1.0);
        OdeBench gone = bench(1);
        gone.term(0, 1.0, ONE, ONE);
        gone.size(0.5, 1.0);
        gone.go(EULER, 0.75);
        Check.due("between: a shorter step begins", gone.between(0, 0.0), 0.5);
        Check.due("between: its middle", gone.between(0, 0.5), 0.625);
        Check.due("between: its end", gone.between(0, 1.0), 0.75);
    }

    private static void timeAndNextSize() {
        OdeBench x = new OdeBench();
        double t = 0.0;
        x.size(0.1, 1.0);
        for (int k = 0; k < 20; k++) {
            x.step(k % 6);
            t = t + 0.1;
            Check.due("time() after " + (k + 1) + " steps", x.time(), t);
            Check.due("nextSize() after " + (k + 1) + " steps", x.nextSize(), 0.1);
        }
        x.size(3.0, 1.0);
        Check.due("nextSize()", x.nextSize(), 3.0);
        Check.due("time() stays", x.time(), t);
    }

    private static void steps() {
        OdeBench x = growth(8.0, 24.0);
        x.step(EULER);
        Check.due("steps(false): one", x.steps(false), 1);
        Check.due("steps(true): none", x.steps(true), 0);
        x.go(PAIR, 0.25);
        Check.due("steps(true): refused for their error", x.steps(true) > 0, true);
        int taken = x.steps(false);
        int refused = x.steps(true);
        x.size(0.125, 1.0);
        Check.refuses("a step that fails", FAILS, () -> x.step(IMPLICIT));
        Check.due("steps(true): one failed", x.steps(true), refused + 1);
        Check.due("steps(false): stays", x.steps(false), taken);
        Check.due("steps(false): going on", x.go(RUNGE, 0.5), 2);
        Check.due("steps(false): two more", x.steps(false), taken + 2);
    }
}
