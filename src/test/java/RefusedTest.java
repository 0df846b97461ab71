import java.util.List;
import java.util.NoSuchElementException;
import java.util.function.Supplier;

/**
 * The sentences of the promises behind which a call is refused, each with a test of its own: the input just
 * inside, the input just outside, and that a refused call changes nothing that later calls show.
 */
public final class RefusedTest {
    private static final int EULER = 0;
    private static final int PAIR = 2;
    private static final int T = 3;
    private static final int ONE = 4;
    private static final int LEAST = Integer.MIN_VALUE;
    private static final int MOST = Integer.MAX_VALUE;
    private static final Class<IllegalArgumentException> BAD = IllegalArgumentException.class;
    private static final Class<IllegalStateException> FULL = IllegalStateException.class;
    private static final Class<NoSuchElementException> NONE = NoSuchElementException.class;
    private static final double TINY = Double.MIN_VALUE;
    private static final double[] NO_NUMBERS = {Double.NaN, Double.POSITIVE_INFINITY, Double.NEGATIVE_INFINITY};

    private RefusedTest() {
    }

    public static void main(String[] args) {
        newHasOneValue();
        newHasNoTerms();
        newHasNoWatch();
        newSizeAndTolerance();
        systemOneToThree();
        systemForgetsAll();
        termOfNoValue();
        termFactors();
        termConstant();
        termTen();
        valueOfNone();
        valueBounds();
        sizeBounds();
        toleranceBounds();
        stepMethods();
        goMethods();
        goTimeNotAbove();
        goTimeTooFar();
        watchOfNone();
        watchLevels();
        eventsSinceTheSystem();
        eventNone();
        eventEightKept();
        eventManyTimesRound();
        atNone();
        derivativeNone();
        betweenOfNone();
        betweenPlaces();
        betweenWithoutAStep();
        betweenBehindAValue();
        betweenBehindATerm();
        timeOfASystem();
        nextSizeOfASystem();
        stepsSinceTheSystem();
        Check.end("RefusedTest");
    }

    private static OdeBench bench(int n) {
        return Twins.bench(n);
    }

    // Promise 1: "One value 0.0, time 0.0".
    private static void newHasOneValue() {
        Check.due("new: at(0)", new OdeBench().at(0), 0.0);
        Check.due("new: time()", new OdeBench().time(), 0.0);
        Twins.unchanged("new: at(1)", BAD, OdeBench::new, x -> x.at(1));
        Twins.unchanged("new: value(1, 0.0)", BAD, OdeBench::new, x -> x.value(1, 0.0));
        Twins.unchanged("new: term with y1", BAD, OdeBench::new, x -> x.term(0, 1.0, 1, ONE));
        Twins.alike("a new object is a system of one", 0, OdeBench::new, () -> bench(1));
    }

    // Promise 1: "no terms".
    private static void newHasNoTerms() {
        OdeBench x = new OdeBench();
        x.value(0, 1000.0);
        Check.due("new: derivative(0)", x.derivative(0), 0.0);
        for (int k = 1; k <= 10; k++) {
            Check.due("new: term " + k, x.term(0, 1.0, ONE, ONE), k);
        }
        Check.refuses("new: term 11", FULL, () -> x.term(0, 1.0, ONE, ONE));
    }

    // Promise 1: "no watch".
    private static void newHasNoWatch() {
        OdeBench x = new OdeBench();
        x.term(0, -16.0, 0, ONE);
        x.value(0, 1.0);
        x.go(EULER, 1.0);
        Check.due("new: the value turned", x.at(0), 1.0);
        Check.due("new: events()", x.events(), 0);
        Check.refuses("new: event(0)", NONE, () -> x.event(0));
    }

    /** PAIR's error for the derivative c * y with the size 0.125, by the document's formula. */
    private static double pairError(double c, double y) {
        double k1 = c * y;
        double k2 = c * (y + 0.5 * 0.125 * k1);
        double k3 = c * (y + 0.75 * 0.125 * k2);
        double k4 = c * (y + 0.125 / 9.0 * (2.0 * k1 + 3.0 * k2 + 4.0 * k3));
        return Math.abs(0.125 / 72.0 * (6.0 * k2 + 8.0 * k3 - 5.0 * k1 - 9.0 * k4));
    }

    /** Some c and y whose error is just this number; a great c, so that the error has enough digits. */
    private static double[] withError(double error) {
        for (double c = 32.0; c <= 64.0; c += 0.01) {
            double low = 0.0;
            double high = 4.0;
            while (Math.nextUp(low) < high) {
                double middle = 0.5 * (low + high);
                if (pairError(c, middle) < error) {
                    low = middle;
                } else {
                    high = middle;
                }
            }
            if (pairError(c, high) == error) {
                return new double[] {c, high};
            }
        }
        throw new IllegalStateException("no system has the error " + error);
    }

    private static boolean refusesError(OdeBench x, double error) {
        double[] found = withError(error);
        x.term(0, found[0], 0, ONE);
        x.value(0, found[1]);
        x.go(PAIR, 0.125);
        return x.steps(true) > 0;
    }

    private static OdeBench oneAgain() {
        OdeBench x = Twins.running();
        x.size(4.0, 4.0);
        x.system(1);
        return x;
    }

    // Promise 1: "size 0.125, tolerance 0.125" (and promise 2: "size and tolerance as at first").
    private static void newSizeAndTolerance() {
        Check.due("new: nextSize()", new OdeBench().nextSize(), 0.125);
        Check.due("new: an error of 0.125 is taken", refusesError(new OdeBench(), 0.125), false);
        Check.due("new: one above is not", refusesError(new OdeBench(), Math.nextUp(0.125)), true);
        Check.due("system: nextSize()", oneAgain().nextSize(), 0.125);
        Check.due("system: an error of 0.125 is taken", refusesError(oneAgain(), 0.125), false);
        Check.due("system: one above is not", refusesError(oneAgain(), Math.nextUp(0.125)), true);
    }

    // Promise 2: "n is not 1 .. 3".
    private static void systemOneToThree() {
        for (int n = 1; n <= 3; n++) {
            OdeBench x = bench(n);
            int count = n;
            Check.due("system(" + n + "): the last value", x.at(n - 1), 0.0);
            Check.refuses("system(" + n + "): no value more", BAD, () -> x.at(count));
        }
        for (int n : new int[] {0, 4, -1, -2, LEAST, MOST}) {
            Twins.unchanged("system(" + n + ")", BAD, x -> x.system(n));
        }
    }

    // Promise 2: "A new system of n values, all 0.0 at time 0.0, without terms, watch and events".
    private static void systemForgetsAll() {
        for (int n = 1; n <= 3; n++) {
            int count = n;
            for (Supplier<OdeBench> used : List.of((Supplier<OdeBench>) Twins::running, Twins::full)) {
                Twins.alike("system(" + n + ") on a used object", 0, () -> {
                    OdeBench x = used.get();
                    x.system(count);
                    return x;
                }, () -> bench(count));
            }
        }
        // a value that a smaller system had not is 0.0 when it comes back
        OdeBench x = bench(3);
        x.value(2, 5.0);
        x.system(2);
        x.system(3);
        Check.due("system: a value that was away", x.at(2), 0.0);
    }

    // Promise 3: "i is not below n".
    private static void termOfNoValue() {
        for (int n = 1; n <= 3; n++) {
            OdeBench x = bench(n);
            int count = n;
            Check.due("term: i = n - 1", x.term(n - 1, 1.0, 0, 0), 1);
            Check.refuses("term: i = n, of " + n, BAD, () -> x.term(count, 1.0, 0, 0));
            Check.due("term: the refused one does not count", x.term(0, 1.0, 0, 0), 2);
        }
        for (int i : new int[] {2, 3, 4, -1, LEAST, MOST}) {
            Twins.unchanged("term: i = " + i, BAD, x -> x.term(i, 1.0, 0, 0));
        }
    }

    // Promise 3: "a or b neither below n nor 3 or 4".
    private static void termFactors() {
        for (int n = 1; n <= 3; n++) {
            int count = n;
            for (int k = -1; k <= 5; k++) {
                int factor = k;
                boolean there = k >= 0 && k < n || k == T || k == ONE;
                String want = there ? "nothing" : BAD.getSimpleName();
                Check.due("term: a = " + k + " of " + n,
                    Check.thrownBy(() -> bench(count).term(0, 1.0, factor, 0)), want);
                Check.due("term: b = " + k + " of " + n,
                    Check.thrownBy(() -> bench(count).term(0, 1.0, 0, factor)), want);
            }
        }
        for (int k : new int[] {2, 5, -1, LEAST, MOST}) {
            Twins.unchanged("term: a = " + k, BAD, x -> x.term(1, 1.0, k, ONE));
            Twins.unchanged("term: b = " + k, BAD, x -> x.term(1, 1.0, ONE, k));
        }
    }

    // Promise 3: "or c is not from -64.0 to 64.0".
    private static void termConstant() {
        for (double c : new double[] {64.0, -64.0, 0.0, -0.0, TINY}) {
            OdeBench x = bench(1);
            Check.due("term: c = " + c, x.term(0, c, ONE, ONE), 1);
            Check.due("term: c = " + c + " is used", x.derivative(0), c);
        }
        Twins.unchanged("term: c above 64.0", BAD, x -> x.term(0, Math.nextUp(64.0), ONE, ONE));
        Twins.unchanged("term: c below -64.0", BAD, x -> x.term(0, Math.nextDown(-64.0), ONE, ONE));
        for (double c : NO_NUMBERS) {
            Twins.unchanged("term: c = " + c, BAD, x -> x.term(0, c, ONE, ONE));
        }
    }

    // Promise 3: "IllegalStateException: there are 10."
    private static void termTen() {
        OdeBench x = bench(2);
        for (int k = 1; k <= 9; k++) {
            x.term(k % 2, 1.0, ONE, ONE);
        }
        Check.refuses("term: a wrong tenth", BAD, () -> x.term(2, 1.0, ONE, ONE));
        Check.due("term: the tenth", x.term(0, 0.5, ONE, ONE), 10);
        Check.due("term: the tenth is used", x.derivative(0), 4.5);
        Check.refuses("term: the eleventh", FULL, () -> x.term(0, 1.0, ONE, ONE));
        Check.due("term: the eleventh is not used", x.derivative(0), 4.5);
        Twins.unchanged("term: an eleventh", FULL, Twins::full, y -> y.term(0, 1.0, ONE, ONE));
        Twins.unchanged("term: a wrong eleventh", BAD, Twins::full, y -> y.term(0, 65.0, ONE, ONE));
        x.system(2);
        Check.due("term: the first of a new system", x.term(0, 1.0, ONE, ONE), 1);
    }

    // Promise 4: "there is none".
    private static void valueOfNone() {
        for (int n = 1; n <= 3; n++) {
            OdeBench x = bench(n);
            int count = n;
            Check.fine("value: i = n - 1", () -> x.value(count - 1, 2.0));
            Check.due("value: i = n - 1 is set", x.at(n - 1), 2.0);
            Check.refuses("value: i = n, of " + n, BAD, () -> x.value(count, 2.0));
        }
        for (int i : new int[] {2, 3, 4, -1, LEAST, MOST}) {
            Twins.unchanged("value: i = " + i, BAD, x -> x.value(i, 1.0));
        }
    }

    // Promise 4: "or it is not from -1000.0 to 1000.0".
    private static void valueBounds() {
        OdeBench x = bench(2);
        for (double v : new double[] {1000.0, -1000.0, 0.0, TINY, -TINY}) {
            x.value(1, v);
            Check.due("value: " + v, x.at(1), v);
        }
        Twins.unchanged("value above 1000.0", BAD, y -> y.value(0, Math.nextUp(1000.0)));
        Twins.unchanged("value below -1000.0", BAD, y -> y.value(1, Math.nextDown(-1000.0)));
        for (double v : NO_NUMBERS) {
            Twins.unchanged("value " + v, BAD, y -> y.value(0, v));
        }
    }

    // Promise 5: "one is not above 0.0, or above 4.0", of the size.
    private static void sizeBounds() {
        OdeBench x = new OdeBench();
        for (double h : new double[] {4.0, TINY, 1.0}) {
            x.size(h, 1.0);
            Check.due("size: " + h, x.nextSize(), h);
        }
        for (double h : new double[] {0.0, -0.0, -TINY, -1.0, Math.nextUp(4.0)}) {
            Twins.unchanged("size: " + h, BAD, y -> y.size(h, 1.0));
        }
        for (double h : NO_NUMBERS) {
            Twins.unchanged("size: " + h, BAD, y -> y.size(h, 1.0));
        }
    }

    // Promise 5, of the tolerance; the size that came with a wrong one is not set either.
    private static void toleranceBounds() {
        for (double tolerance : new double[] {4.0, TINY}) {
            OdeBench x = bench(1);
            x.term(0, 8.0, 0, ONE);
            x.value(0, 48.0);
            x.size(0.125, tolerance);
            // an error of about 2.0
            Check.thrownBy(() -> x.go(PAIR, 0.125));
            Check.due("tolerance: " + tolerance, x.steps(true) > 0, tolerance < 1.0);
        }
        for (double tolerance : new double[] {0.0, -0.0, -TINY, Math.nextUp(4.0)}) {
            Twins.unchanged("tolerance: " + tolerance, BAD, y -> y.size(0.5, tolerance));
        }
        for (double tolerance : NO_NUMBERS) {
            Twins.unchanged("tolerance: " + tolerance, BAD, y -> y.size(0.5, tolerance));
        }
    }

    // Promise 6: "there is no such method".
    private static void stepMethods() {
        for (int method = 0; method <= 5; method++) {
            int one = method;
            OdeBench x = Twins.running();
            int taken = x.steps(false);
            Check.fine("step(" + method + ")", () -> x.step(one));
            Check.due("step(" + method + ") is taken", x.steps(false), taken + 1);
        }
        for (int method : new int[] {-1, 6, LEAST, MOST}) {
            Twins.unchanged("step(" + method + ")", BAD, x -> x.step(method));
        }
    }

    // Promise 7: "there is no such method".
    private static void goMethods() {
        for (int method = 0; method <= 5; method++) {
            OdeBench x = Twins.running();
            Check.due("go(" + method + ", ..)", x.go(method, x.time() + 0.25), 1);
        }
        for (int method : new int[] {-1, 6, LEAST, MOST}) {
            Twins.unchanged("go(" + method + ", ..)", BAD, x -> x.go(method, x.time() + 0.25));
        }
    }

    // Promise 7: "or the time is not above t".
    private static void goTimeNotAbove() {
        for (int method = 0; method <= 5; method++) {
            int one = method;
            OdeBench x = bench(1);
            Check.refuses("go to 0.0", BAD, () -> x.go(one, 0.0));
            Check.refuses("go to -0.0", BAD, () -> x.go(one, -0.0));
            Check.due("go to the least time", x.go(method, TINY), 1);
            Check.due("the least time", x.time(), TINY);
            // PAIR made its size twice that of the step there
            x.size(0.5, 1.0);
            x.go(method, 0.5);
            Check.refuses("go to the time that it is", BAD, () -> x.go(one, 0.5));
            Check.due("go to the next time", x.go(method, Math.nextUp(0.5)), 1);
            Check.due("the next time", x.time(), Math.nextUp(0.5));
        }
        Twins.unchanged("go to now", BAD, x -> x.go(EULER, x.time()));
        Twins.unchanged("go just back", BAD, x -> x.go(EULER, Math.nextDown(x.time())));
        Twins.unchanged("go back", BAD, x -> x.go(EULER, -1.0));
        Twins.unchanged("go to no time", BAD, x -> x.go(EULER, Double.NaN));
        Twins.unchanged("go back without end", BAD, x -> x.go(EULER, Double.NEGATIVE_INFINITY));
    }

    // Promise 7: "or above t + 100.0".
    private static void goTimeTooFar() {
        for (double start : new double[] {0.0, 0.1, 3.7}) {
            OdeBench x = bench(1);
            if (start > 0.0) {
                x.go(EULER, start);
            }
            x.size(4.0, 1.0);
            Check.refuses("go too far from " + start, BAD, () -> x.go(EULER, Math.nextUp(start + 100.0)));
            Check.due("go far from " + start, x.go(EULER, start + 100.0), 25);
            Check.due("far from " + start, x.time(), start + 100.0);
        }
        Twins.unchanged("go too far", BAD, x -> x.go(EULER, Math.nextUp(x.time() + 100.0)));
        Twins.unchanged("go without end", BAD, x -> x.go(EULER, Double.POSITIVE_INFINITY));
    }

    // Promise 8: "there is no such value".
    private static void watchOfNone() {
        for (int n = 1; n <= 3; n++) {
            int count = n;
            OdeBench x = bench(n);
            x.term(n - 1, 8.0, ONE, ONE);
            x.value(n - 1, -0.5);
            Check.fine("watch: e = n - 1", () -> x.watch(count - 1, 0.0));
            Check.refuses("watch: e = n, of " + n, BAD, () -> x.watch(count, 0.0));
            x.step(EULER);
            Check.due("watch: e = n - 1 is watched", x.events(), 1);
        }
        for (int e : new int[] {2, 3, 4, -1, LEAST, MOST}) {
            Twins.unchanged("watch: e = " + e, BAD, x -> x.watch(e, 0.0));
        }
    }

    // Promise 8: "or level is not from -1000.0 to 1000.0".
    private static void watchLevels() {
        for (double level : new double[] {1000.0, -1000.0}) {
            OdeBench x = bench(1);
            x.term(0, Math.signum(level) * 8.0, ONE, ONE);
            x.value(0, level - Math.signum(level) * 0.5);
            Check.fine("watch: level " + level, () -> x.watch(0, level));
            x.step(EULER);
            Check.due("watch: through " + level, x.events(), 1);
            x.step(EULER);
            Check.due("watch: beyond " + level, x.events(), 1);
        }
        Twins.unchanged("watch: level above 1000.0", BAD, x -> x.watch(1, Math.nextUp(1000.0)));
        Twins.unchanged("watch: level below -1000.0", BAD, x -> x.watch(1, Math.nextDown(-1000.0)));
        for (double level : NO_NUMBERS) {
            Twins.unchanged("watch: level " + level, BAD, x -> x.watch(0, level));
        }
    }

    /** Each step of EULER turns the value's sign, and so is an event. */
    private static OdeBench turning() {
        OdeBench x = bench(1);
        x.term(0, -16.0, 0, ONE);
        x.value(0, 1.0);
        x.watch(0, 0.0);
        return x;
    }

    // Promise 9: "How many events there were since the system was made."
    private static void eventsSinceTheSystem() {
        OdeBench x = turning();
        Check.due("events: none yet", x.events(), 0);
        x.step(EULER);
        Check.due("events: one", x.events(), 1);
        x.watch(0, 500.0);
        x.step(EULER);
        Check.due("events: none at another level", x.events(), 1);
        x.value(0, 3.0);
        x.term(0, 1.0, ONE, ONE);
        x.size(0.5, 0.5);
        Check.due("events: stay", x.events(), 1);
        x.system(1);
        Check.due("events: none of a new system", x.events(), 0);
    }

    // Promise 10: "there is none".
    private static void eventNone() {
        OdeBench x = turning();
        for (int k = 0; k < 8; k++) {
            int none = k;
            Twins.unchanged("event: none of " + k, NONE, () -> turned(none), y -> y.event(none));
            x.step(EULER);
            Check.fine("event: the first of " + (k + 1), () -> x.event(none));
        }
        x.system(1);
        Check.refuses("event: none of a new system", NONE, () -> x.event(0));
    }

    private static OdeBench turned(int times) {
        OdeBench x = turning();
        for (int k = 0; k < times; k++) {
            x.step(EULER);
        }
        return x;
    }

    // Promise 10: "or k is not 0 .. 7", with more than eight events.
    private static void eventEightKept() {
        Check.fine("event(7) of 9", () -> turned(9).event(7));
        for (int k : new int[] {8, 9, -1, LEAST, MOST}) {
            Twins.unchanged("event(" + k + ")", NONE, () -> turned(20), x -> x.event(k));
            Twins.unchanged("event(" + k + ") elsewhere", NONE, x -> x.event(k));
        }
    }

    // Promise 10: "The time of the k-th latest event", while the eight kept go round more than once.
    private static void eventManyTimesRound() {
        OdeBench x = turning();
        double[] times = new double[26];
        for (int k = 0; k < times.length; k++) {
            x.step(EULER);
            times[k] = x.event(0);
            Check.due("event: in its step", times[k] > k * 0.125 && times[k] < (k + 1) * 0.125, true);
            for (int j = 0; j < 8 && j <= k; j++) {
                Check.due("event(" + j + ") of " + (k + 1), x.event(j), times[k - j]);
            }
        }
        // as many events as an object can have in its 512 calls
        OdeBench many = bench(1);
        many.term(0, -2.0, 0, ONE);
        many.value(0, 1.0);
        many.watch(0, 0.0);
        many.size(1.0, 1.0);
        for (int k = 1; k <= 490; k++) {
            Check.due("a hundred steps", many.go(EULER, 100.0 * k), 100);
        }
        Check.due("events: all", many.events(), 49000);
        for (int k = 0; k < 8; k++) {
            double begin = 48999.0 - k;
            Check.due("event of many", many.event(k) > begin && many.event(k) < begin + 1.0, true);
        }
        Check.refuses("event(8) of many", NONE, () -> many.event(8));
    }

    // Promise 11: "there is none".
    private static void atNone() {
        for (int n = 1; n <= 3; n++) {
            OdeBench x = bench(n);
            int count = n;
            Check.fine("at(n - 1)", () -> x.at(count - 1));
            Check.refuses("at(n)", BAD, () -> x.at(count));
        }
        for (int i : new int[] {2, 3, 4, -1, LEAST, MOST}) {
            Twins.unchanged("at(" + i + ")", BAD, x -> x.at(i));
        }
    }

    // Promise 12: "there is none".
    private static void derivativeNone() {
        for (int n = 1; n <= 3; n++) {
            OdeBench x = bench(n);
            int count = n;
            x.term(n - 1, 3.0, ONE, ONE);
            Check.due("derivative(n - 1)", x.derivative(n - 1), 3.0);
            Check.refuses("derivative(n)", BAD, () -> x.derivative(count));
        }
        for (int i : new int[] {2, 3, 4, -1, LEAST, MOST}) {
            Twins.unchanged("derivative(" + i + ")", BAD, x -> x.derivative(i));
        }
    }

    // Promise 13: "there is no such value".
    private static void betweenOfNone() {
        for (int n = 1; n <= 3; n++) {
            OdeBench x = bench(n);
            int count = n;
            x.step(EULER);
            Check.fine("between(n - 1, ..)", () -> x.between(count - 1, 0.5));
            Check.refuses("between(n, ..)", BAD, () -> x.between(count, 0.5));
        }
        for (int i : new int[] {2, 3, 4, -1, LEAST, MOST}) {
            Twins.unchanged("between(" + i + ", ..)", BAD, x -> x.between(i, 0.5));
        }
    }

    // Promise 13: "or m is not from 0.0 to 1.0".
    private static void betweenPlaces() {
        OdeBench x = bench(1);
        x.term(0, 8.0, 0, ONE);
        x.value(0, 3.0);
        x.step(EULER);
        Check.due("between: m = 0.0", x.between(0, 0.0), 3.0);
        Check.due("between: m = -0.0", x.between(0, -0.0), 3.0);
        Check.due("between: m = 1.0", x.between(0, 1.0), 6.0);
        Check.fine("between: the least m", () -> x.between(0, TINY));
        Check.fine("between: m just below 1.0", () -> x.between(0, Math.nextDown(1.0)));
        Twins.unchanged("between: m below 0.0", BAD, y -> y.between(0, -TINY));
        Twins.unchanged("between: m above 1.0", BAD, y -> y.between(1, Math.nextUp(1.0)));
        for (double m : NO_NUMBERS) {
            Twins.unchanged("between: m = " + m, BAD, y -> y.between(0, m));
        }
    }

    // Promise 13: "no step was taken since the system was made".
    private static void betweenWithoutAStep() {
        Twins.unchanged("between: a new object", NONE, OdeBench::new, x -> x.between(0, 0.5));
        Twins.unchanged("between: a new system", NONE, Twins::fresh, x -> x.between(1, 0.0));
        OdeBench x = Twins.running();
        x.system(2);
        Check.refuses("between: a new system behind steps", NONE, () -> x.between(0, 1.0));
        x.size(1.0, 1.0);
        x.watch(0, 0.0);
        Check.refuses("between: behind size and watch alone", NONE, () -> x.between(0, 1.0));
        x.step(EULER);
        Check.fine("between: behind a step", () -> x.between(0, 1.0));
        // a step that failed was not taken
        OdeBench failed = bench(1);
        failed.term(0, 64.0, 0, 0);
        failed.value(0, 1000.0);
        Check.refuses("a failed step", ArithmeticException.class, () -> failed.step(EULER));
        Check.refuses("between: behind a failed step alone", NONE, () -> failed.between(0, 0.5));
    }

    // Promise 13: "or a value was set .. since".
    private static void betweenBehindAValue() {
        OdeBench x = Twins.running();
        Check.fine("between: before a value", () -> x.between(0, 0.5));
        Check.refuses("a refused value", BAD, () -> x.value(0, 2000.0));
        Check.fine("between: behind a refused value", () -> x.between(0, 0.5));
        x.value(1, x.at(1));
        Check.refuses("between: behind the same value", NONE, () -> x.between(0, 0.5));
        Check.refuses("between: of the other value too", NONE, () -> x.between(1, 0.5));
        x.step(EULER);
        Check.fine("between: behind one more step", () -> x.between(0, 0.5));
        Twins.unchanged("between: behind a value", NONE, Twins::valueSet, y -> y.between(0, 0.5));
    }

    // Promise 13: "or a term came since".
    private static void betweenBehindATerm() {
        OdeBench x = Twins.running();
        Check.refuses("a refused term", BAD, () -> x.term(0, 65.0, ONE, ONE));
        Check.fine("between: behind a refused term", () -> x.between(0, 0.5));
        x.term(0, 0.0, ONE, ONE);
        Check.refuses("between: behind a term", NONE, () -> x.between(0, 0.5));
        x.step(EULER);
        Check.fine("between: behind one more step", () -> x.between(0, 0.5));
        OdeBench full = Twins.full();
        Check.refuses("an eleventh term", FULL, () -> full.term(0, 0.0, ONE, ONE));
        Check.fine("between: behind an eleventh term", () -> full.between(0, 0.5));
    }

    // Promise 14, with promise 2: "at time 0.0".
    private static void timeOfASystem() {
        OdeBench x = Twins.running();
        Check.due("time: on its way", x.time(), 9.5);
        x.value(0, 0.0);
        x.term(0, 1.0, ONE, ONE);
        x.size(1.0, 1.0);
        x.watch(1, 0.0);
        Check.due("time: stays", x.time(), 9.5);
        x.system(2);
        Check.due("time: of a new system", x.time(), 0.0);
    }

    // Promise 15, with promises 2 and 5.
    private static void nextSizeOfASystem() {
        OdeBench x = Twins.running();
        Check.due("nextSize: as set", x.nextSize(), 0.25);
        x.value(0, 0.0);
        x.term(0, 1.0, ONE, ONE);
        x.watch(1, 0.0);
        Check.due("nextSize: stays", x.nextSize(), 0.25);
        x.system(2);
        Check.due("nextSize: of a new system", x.nextSize(), 0.125);
    }

    // Promise 16: "since the system was made".
    private static void stepsSinceTheSystem() {
        OdeBench x = Twins.running();
        Check.due("steps: some taken", x.steps(false) > 0, true);
        Check.due("steps: some refused", x.steps(true) > 0, true);
        int taken = x.steps(false);
        int refused = x.steps(true);
        x.value(0, 0.0);
        x.term(0, 1.0, ONE, ONE);
        Check.due("steps: taken ones stay", x.steps(false), taken);
        Check.due("steps: refused ones stay", x.steps(true), refused);
        x.system(3);
        Check.due("steps: none taken in a new system", x.steps(false), 0);
        Check.due("steps: none refused in a new system", x.steps(true), 0);
    }
}
