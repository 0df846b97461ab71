import java.util.NoSuchElementException;
import java.util.function.Consumer;
import java.util.function.Supplier;

/**
 * The edges that the document names under 'Terms' (what FAILS, what STOPS, 'not above', 'below', 'at most', the
 * exact time, 0.0 counts as above), each with a test of its own: just inside, just outside, and what stays.
 */
public final class EdgeTest {
    private static final int EULER = 0;
    private static final int RUNGE = 1;
    private static final int PAIR = 2;
    private static final int ADAMS = 3;
    private static final int IMPLICIT = 4;
    private static final int MIDPOINTS = 5;
    private static final int T = 3;
    private static final int ONE = 4;
    private static final Class<ArithmeticException> FAILS = ArithmeticException.class;
    private static final Class<NoSuchElementException> NONE = NoSuchElementException.class;
    private static final double TINY = Double.MIN_VALUE;

    private EdgeTest() {
    }

    public static void main(String[] args) {
        factorsOfATerm();
        farthestStep();
        farthestStepOfAdamsGoingOn();
        failedStepLeavesAll();
        failedGoingLeavesAll();
        adamsSameSize();
        adamsSameSizeGoingOn();
        implicitLeastPivot();
        implicitFirstOfSeveral();
        implicitLastChange();
        implicitFarthestTry();
        implicitEighthTime();
        goingShortens();
        goingToTheExactTime();
        goingWithTheTimeLessT();
        betweenToTheExactTime();
        pairErrorAboveTolerance();
        pairErrorOfAnyValue();
        pairHalvesItsStep();
        pairRefusedLeavesAll();
        pairTooSmall();
        pairTooSmallWhenShortened();
        pairErrorBelowSixteenth();
        pairNotAboveOne();
        pairFailsBeforeItRefuses();
        stepOfPairKeepsItsSize();
        sizeIsKept();
        hundredSteps();
        hundredTries();
        stoppedGoingIsItsSteps();
        failedGoingIsItsSteps();
        stepsAreCounted();
        zeroCountsAsAbove();
        zeroCountsAsAboveInTheSearch();
        twentyHalvings();
        eventsOfStepsTaken();
        eventsFromNowOn();
        eventsOfAnotherWatch();
        Check.end("EdgeTest");
    }

    private static OdeBench bench(int n) {
        return Twins.bench(n);
    }

    /** One value that begins at v, with the derivative c * v. */
    private static OdeBench growth(double c, double v) {
        OdeBench x = bench(1);
        x.term(0, c, 0, ONE);
        x.value(0, v);
        return x;
    }

    /** One value that begins at v, with the derivative c. */
    private static OdeBench line(double c, double v) {
        OdeBench x = bench(1);
        x.term(0, c, ONE, ONE);
        x.value(0, v);
        return x;
    }

    /** With the derivative c * t * t: the error of PAIR is the same from every t, but for rounding. */
    private static OdeBench squares(double c, double h, double tolerance) {
        OdeBench x = bench(1);
        x.term(0, c, T, T);
        x.size(h, tolerance);
        return x;
    }

    // "v(k) is yk for k below n, t for k = 3, and 1.0 for k = 4"
    private static void factorsOfATerm() {
        double[] factors = {3.0, 5.0, 7.0, 0.5, 1.0};
        for (int n = 1; n <= 3; n++) {
            for (int k = 0; k <= 4; k++) {
                if (k >= n && k < T) {
                    continue;
                }
                OdeBench x = bench(n);
                x.size(0.5, 1.0);
                x.step(EULER);
                for (int i = 0; i < n; i++) {
                    x.value(i, factors[i]);
                }
                x.term(0, 2.0, k, ONE);
                Check.due("v(" + k + ") of " + n, x.derivative(0), 2.0 * factors[k]);
                x.term(0, 2.0, ONE, k);
                Check.due("v(" + k + ") of " + n + ", twice", x.derivative(0), 4.0 * factors[k]);
            }
        }
    }

    /**
     * One of three values stands at a whole number near 1.0E6 or -1.0E6 and has the given slope there; the
     * size is 1.0, and the other values stand still.
     */
    private static OdeBench farOut(int i, double place, double slope) {
        OdeBench x = bench(3);
        int driver = (i + 1) % 3;
        double sign = Math.signum(place);
        double less = sign * 1.0E6 - place;
        x.term(i, sign, driver, driver);
        x.term(i, -less, ONE, ONE);
        x.value(driver, 1000.0);
        x.size(1.0, 1.0);
        x.step(EULER);
        x.value(driver, 0.0);
        x.term(i, slope + less, ONE, ONE);
        Check.due("far out", x.at(i), place);
        Check.due("the slope far out", x.derivative(i), slope);
        return x;
    }

    // "A step whose z has a max above 1.0E6 FAILS too."
    private static void farthestStep() {
        for (int method = 0; method <= 5; method++) {
            // 1.0E6 + 2^-33 is the next number above 1.0E6, but MIDPOINTS goes there in quarters
            double more = 1.0 + (method == MIDPOINTS ? 0x1p-31 : 0x1p-33);
            for (int i = 0; i < 3; i++) {
                int one = method;
                String name = "method " + method + ", value " + i;
                OdeBench up = farOut(i, 999999.0, 1.0);
                Check.fine(name + " to 1.0E6", () -> up.step(one));
                Check.due(name + " at 1.0E6", up.at(i), 1.0E6);
                OdeBench tooUp = farOut(i, 999999.0, more);
                Check.refuses(name + " just beyond 1.0E6", FAILS, () -> tooUp.step(one));
                Check.due(name + " stays", tooUp.at(i), 999999.0);
                OdeBench down = farOut(i, -999999.0, -1.0);
                Check.fine(name + " to -1.0E6", () -> down.go(one, 2.0));
                Check.due(name + " at -1.0E6", down.at(i), -1.0E6);
                OdeBench tooDown = farOut(i, -999999.0, -more);
                Check.refuses(name + " just beyond -1.0E6", FAILS, () -> tooDown.go(one, 2.0));
                Check.due(name + " stays below", tooDown.at(i), -999999.0);
                Check.due(name + " is counted", tooDown.steps(true), 1);
            }
        }
    }

    // The same of a step of ADAMS that goes on from another one.
    private static void farthestStepOfAdamsGoingOn() {
        OdeBench inside = farOut(1, 999998.0, 1.0);
        inside.step(ADAMS);
        Check.fine("ADAMS goes on to 1.0E6", () -> inside.step(ADAMS));
        Check.due("ADAMS at 1.0E6", inside.at(1), 1.0E6);
        OdeBench outside = farOut(1, 999998.0, 1.0 + 0x1p-33);
        outside.step(ADAMS);
        double kept = outside.at(1);
        Check.refuses("ADAMS goes on just beyond 1.0E6", FAILS, () -> outside.step(ADAMS));
        Check.due("ADAMS stays", outside.at(1), kept);
    }

    /** So steep that a step of 4.0 fails with each method, while one of 2^-20 does not. */
    private static OdeBench steep() {
        OdeBench x = bench(2);
        x.term(0, 1.0, 1, ONE);
        x.term(1, 64.0, 1, 1);
        x.value(0, -0.0005);
        x.value(1, 1000.0);
        x.watch(0, 0.0);
        x.size(0x1p-20, 1.0);
        x.step(EULER);
        x.step(EULER);
        Check.due("steep: an event", x.events(), 1);
        x.size(4.0, 1.0);
        return x;
    }

    private static void failureLeavesAll(String name, Consumer<OdeBench> call) {
        Check.due(name + " fails", Check.thrownBy(() -> call.accept(steep())), FAILS.getSimpleName());
        Supplier<OdeBench> failed = () -> {
            OdeBench x = steep();
            Check.refuses(name, FAILS, () -> call.accept(x));
            return x;
        };
        Twins.alike(name + " leaves all", 1, failed, EdgeTest::steep);
        Supplier<OdeBench> failedAndSmall = () -> {
            OdeBench x = failed.get();
            x.size(0x1p-20, 0.0001);
            return x;
        };
        Twins.alike(name + " leaves all, for small steps", 1, failedAndSmall, () -> {
            OdeBench x = steep();
            x.size(0x1p-20, 0.0001);
            return x;
        });
    }

    // "When a step fails, t and y stay as they were before it." (Promise 6: "ArithmeticException: it fails")
    private static void failedStepLeavesAll() {
        for (int method = 0; method <= 5; method++) {
            int one = method;
            failureLeavesAll("step(" + method + ")", x -> x.step(one));
        }
    }

    // The same of promise 7: "ArithmeticException: a step fails"
    private static void failedGoingLeavesAll() {
        for (int method = 0; method <= 5; method++) {
            int one = method;
            failureLeavesAll("go(" + method + ", ..)", x -> x.go(one, x.time() + 50.0));
        }
    }

    private static boolean goesOn(Consumer<OdeBench> between) {
        OdeBench x = Twins.running();
        OdeBench runge = Twins.running();
        between.accept(x);
        between.accept(runge);
        x.step(ADAMS);
        runge.step(RUNGE);
        return x.at(0) != runge.at(0);
    }

    // ADAMS: "with the same H"
    private static void adamsSameSize() {
        Check.due("ADAMS: the same H", goesOn(x -> { }), true);
        Check.due("ADAMS: the same H set again", goesOn(x -> x.size(0.25, 4.0)), true);
        Check.due("ADAMS: H just above", goesOn(x -> x.size(Math.nextUp(0.25), 0.01)), false);
        Check.due("ADAMS: H just below", goesOn(x -> x.size(Math.nextDown(0.25), 0.01)), false);
    }

    // The same, when H is the time less t.
    private static void adamsSameSizeGoingOn() {
        Check.due("ADAMS: shortened to the same H", goesOn(x -> {
            x.size(1.0, 0.01);
            x.go(ADAMS, x.time() + 0.25);
            x.size(0.25, 0.01);
        }), true);
        Check.due("ADAMS: shortened to another H", goesOn(x -> x.go(ADAMS, Math.nextDown(x.time() + 0.25))), false);
        OdeBench x = growth(1.0, 1.0);
        x.size(1.0, 1.0);
        x.step(ADAMS);
        double y = x.at(0);
        x.size(4.0, 1.0);
        x.go(ADAMS, 2.0);
        // the time less t is 1.0, as H was before
        Check.due("ADAMS: goes on with the time less t", x.at(0), y + 0.5 * 1.0 * (y + 1.0 * (1.5 * y - 0.5) + y));
    }

    /** With the size 1.0 the rows of IMPLICIT's M are these (each 1.0 less an entry must be exact). */
    private static OdeBench rows(double[]... m) {
        OdeBench x = bench(m.length);
        for (int i = 0; i < m.length; i++) {
            for (int j = 0; j < m.length; j++) {
                double own = i == j ? 1.0 : 0.0;
                if (m[i][j] != own) {
                    x.term(i, own - m[i][j], j, ONE);
                }
            }
        }
        x.size(1.0, 1.0);
        return x;
    }

    private static double[] row(double... entries) {
        return entries;
    }

    // IMPLICIT: "when that size is below 1.0E-9, the step FAILS", in each column that there can be
    private static void implicitLeastPivot() {
        // 9007199 * 2^-53 is just below 1.0E-9, 9007200 * 2^-53 just above
        OdeBench enough = growth(1.0, 0.0);
        enough.size(1.0 - 9007200 * 0x1p-53, 1.0);
        Check.fine("M of one value just enough", () -> enough.step(IMPLICIT));
        OdeBench tooLittle = growth(1.0, 0.0);
        tooLittle.size(1.0 - 9007199 * 0x1p-53, 1.0);
        Check.refuses("M of one value just too small", FAILS, () -> tooLittle.step(IMPLICIT));
        OdeBench none = growth(1.0, 0.0);
        none.size(1.0, 1.0);
        Check.refuses("M of one value 0.0", FAILS, () -> none.step(IMPLICIT));
        for (double size : new double[] {1.0E-9, Math.nextDown(1.0E-9), 0.0}) {
            for (double e : new double[] {size, -size}) {
                String want = size >= 1.0E-9 ? "nothing" : FAILS.getSimpleName();
                OdeBench[] all = {
                    rows(row(0.0, -1.0), row(e, 1.0)),
                    rows(row(1.0, -e), row(1.0, 0.0)),
                    rows(row(0.0, 1.0, 0.0), row(0.0, 0.0, 1.0), row(e, 0.0, 0.0)),
                    rows(row(1.0, 0.0, 0.0), row(0.0, 0.0, 1.0), row(0.0, e, 1.0)),
                    rows(row(1.0, 0.0, 0.0), row(0.0, 1.0, -e), row(0.0, 1.0, 0.0))};
                for (int k = 0; k < all.length; k++) {
                    OdeBench x = all[k];
                    Check.due("M " + k + " with " + e, Check.thrownBy(() -> x.step(IMPLICIT)), want);
                    Check.due("M " + k + " with " + e + ": refused", x.steps(true), size >= 1.0E-9 ? 0 : 1);
                }
            }
        }
    }

    // IMPLICIT: "the row from c on with the greatest size there (of several the first)"; reckoned apart, and
    // another choice of row ends in another last digit
    private static void implicitFirstOfSeveral() {
        OdeBench two = bench(2);
        two.term(0, 1.5, 0, ONE);
        two.term(0, 1.6, 1, ONE);
        two.term(1, -0.5, 0, ONE);
        two.term(1, 0.7, 1, ONE);
        two.value(0, 0.2);
        two.value(1, 0.6);
        two.size(1.0, 1.0);
        two.step(IMPLICIT);
        Check.due("of two rows the first: z0", two.at(0), 1.569230769230769);
        Check.due("of two rows the first: z1", two.at(1), -0.6153846153846152);
        OdeBench three = bench(3);
        double[][] c = {{0.0, -2.4, -1.4}, {3.0, 2.7, 1.6}, {3.0, 0.8, -0.3}};
        double[] y = {0.1, 0.4, 0.1};
        for (int i = 0; i < 3; i++) {
            three.value(i, y[i]);
            for (int j = 0; j < 3; j++) {
                if (c[i][j] != 0.0) {
                    three.term(i, c[i][j], j, ONE);
                }
            }
        }
        three.size(1.0, 1.0);
        three.step(IMPLICIT);
        Check.due("of the second and third row the second: z0", three.at(0), -0.16098457016899342);
        Check.due("of the second and third row the second: z1", three.at(1), 0.20646583394562826);
        Check.due("of the second and third row the second: z2", three.at(2), -0.1675238795003674);
    }

    // IMPLICIT: "when the max of d is not above 1.0E-9, that is it"
    private static void implicitLastChange() {
        for (double sign : new double[] {1.0, -1.0}) {
            for (int i = 0; i < 3; i++) {
                // the first change is just c, and a second one adds about 64.0E-18
                OdeBench once = changing(i, sign * 1.0E-9);
                once.step(IMPLICIT);
                Check.due("a change of 1.0E-9 is the last", once.at(i), sign * 1.0E-9);
                double more = sign * Math.nextUp(1.0E-9);
                OdeBench twice = changing(i, more);
                twice.step(IMPLICIT);
                Check.due("a change above 1.0E-9 is not the last", twice.at(i) > more, true);
            }
        }
    }

    private static OdeBench changing(int i, double c) {
        OdeBench x = bench(3);
        x.term(i, 64.0, i, i);
        x.term(i, c, ONE, ONE);
        x.size(1.0, 1.0);
        return x;
    }

    // IMPLICIT: "when the max of z is above 1.0E9 .. the step FAILS". M's corner is 2^-19 the first time, so that
    // the second value is thrown far out, to 512 * 1953125 = 1.0E9; then it comes back to where it belongs.
    private static void implicitFarthestTry() {
        double y0 = 1.0 - 0x1p-19;
        double z0 = 1953124 * 0x1p-19;
        for (double y1 : new double[] {512.0, -512.0, 511.0}) {
            OdeBench x = thrownOut(y0, z0, y1);
            Check.fine("z at " + y1 * 1953125.0, () -> x.step(IMPLICIT));
            Check.due("z back again", Math.abs(x.at(1) - y1 / (1.0 - z0)) < 1.0E-6, true);
        }
        // one last digit more here is one last digit above 1.0E9 there
        for (double y1 : new double[] {512.0, -512.0, 513.0}) {
            OdeBench x = thrownOut(y0, Math.nextUp(z0), y1);
            Check.refuses("z just beyond " + y1 * 1953125.0, FAILS, () -> x.step(IMPLICIT));
            Check.due("z stays", x.at(1), y1);
        }
    }

    private static OdeBench thrownOut(double y0, double z0, double y1) {
        OdeBench x = bench(2);
        x.term(0, z0 - y0, ONE, ONE);
        x.term(1, 1.0, 0, 1);
        x.value(0, y0);
        x.value(1, y1);
        x.size(1.0, 1.0);
        return x;
    }

    /** How many times it takes to solve z + 256.0 * z * z = y, from z = y on. */
    private static int timesNeeded(double y) {
        double z = y;
        for (int k = 1; k < 100; k++) {
            double d = (z - y - 4.0 * (-64.0 * z * z)) / (1.0 - 4.0 * (-64.0 * z + -64.0 * z));
            z = z - d;
            if (Math.abs(d) <= 1.0E-9) {
                return k;
            }
        }
        return 100;
    }

    // IMPLICIT: "at most 8 times", "or the eighth time was not enough, the step FAILS"
    private static void implicitEighthTime() {
        double[] enough = {0.2, 0.5, 0.7477365901364815};
        double[] tooFew = {Math.nextUp(0.7477365901364815), 0.75, 1000.0};
        for (double y : enough) {
            Check.due("eight times: needed from " + y, timesNeeded(y) <= 8, true);
            OdeBench x = parabola(y);
            Check.fine("eight times from " + y, () -> x.step(IMPLICIT));
        }
        Check.due("eight times: all are needed", timesNeeded(enough[2]), 8);
        Check.due("eight times: a ninth is needed", timesNeeded(tooFew[0]), 9);
        for (double y : tooFew) {
            OdeBench x = parabola(y);
            Check.refuses("eight times from " + y, FAILS, () -> x.step(IMPLICIT));
            Check.due("eight times: the value stays", x.at(0), y);
            Check.due("eight times: the time stays", x.time(), 0.0);
        }
    }

    private static OdeBench parabola(double y) {
        OdeBench x = bench(1);
        x.term(0, -64.0, 0, 0);
        x.value(0, y);
        x.size(4.0, 1.0);
        return x;
    }

    /** At t = 0.1 + 0.1, with the value 0.0 and the slope 1.0; t + 0.1 less t is not 0.1 there. */
    private static OdeBench atTwoTenths() {
        OdeBench x = line(1.0, 0.0);
        x.size(0.1, 1.0);
        x.step(EULER);
        x.step(EULER);
        x.value(0, 0.0);
        return x;
    }

    // "H is h, but the time less t, when t + h is above the time"
    private static void goingShortens() {
        double t = 0.1 + 0.1;
        double end = t + 0.1;
        Check.due("t + h less t is another number", end - t == 0.1, false);
        OdeBench same = atTwoTenths();
        Check.due("t + h is the time: one step", same.go(EULER, end), 1);
        Check.due("t + h is the time: of h", same.at(0), 0.1);
        Check.due("t + h is the time: there", same.time(), end);
        double sooner = Math.nextDown(end);
        OdeBench above = atTwoTenths();
        Check.due("t + h is above the time: one step", above.go(EULER, sooner), 1);
        Check.due("t + h is above the time: of the time less t", above.at(0), sooner - t);
        Check.due("t + h is above the time: there", above.time(), sooner);
        double later = Math.nextUp(end);
        OdeBench below = atTwoTenths();
        Check.due("t + h is below the time: two steps", below.go(EULER, later), 2);
        Check.due("t + h is below the time: the second begins behind h", below.between(0, 0.0), 0.1);
        Check.due("t + h is below the time: there", below.time(), later);
    }

    // "Each step taken to a time is to that time exactly when H was the time less t."
    private static void goingToTheExactTime() {
        double[][] cases = {{0.03, 0.3}, {0.78, 3.02}, {0.26, 2.78}};
        Check.due("rounded past the time", 0.78 + (3.02 - 0.78) > 3.02, true);
        Check.due("rounded short of the time", 0.26 + (2.78 - 0.26) < 2.78, true);
        for (double[] one : cases) {
            for (int method = 0; method <= 5; method++) {
                OdeBench x = bench(1);
                x.size(one[0], 1.0);
                x.step(EULER);
                x.size(4.0, 1.0);
                Check.due("to " + one[1] + ": one step", x.go(method, one[1]), 1);
                Check.due("to " + one[1] + ": exactly", x.time(), one[1]);
                Check.refuses("to " + one[1] + ": it is there", IllegalArgumentException.class,
                    () -> x.go(EULER, one[1]));
            }
            // a step that is not on the way to a time leads to t + H as reckoned
            OdeBench y = bench(1);
            y.size(one[0], 1.0);
            y.step(EULER);
            y.size(one[1] - one[0], 1.0);
            y.step(EULER);
            Check.due("a step alone", y.time(), one[0] + (one[1] - one[0]));
        }
    }

    // "H is h, but the time less t, when t + h is above the time": an h that only happens to be that number is h
    private static void goingWithTheTimeLessT() {
        Check.due("0.7 is the time less t", 0.9 - 0.2, 0.7);
        Check.due("0.7 leads short of the time", 0.2 + 0.7 < 0.9, true);
        for (int method = 0; method <= 5; method++) {
            OdeBench x = bench(1);
            x.size(0.2, 1.0);
            x.step(EULER);
            x.size(0.7, 1.0);
            Check.due("h is the time less t: two steps", x.go(method, 0.9), 2);
            Check.due("h is the time less t: there", x.time(), 0.9);
        }
    }

    // BETWEEN: "to z with the derivative f(t + H, z) = q", also when the step led to another time exactly
    private static void betweenToTheExactTime() {
        double t = 0.26;
        double h = 2.78 - t;
        OdeBench x = bench(1);
        x.size(t, 1.0);
        x.step(EULER);
        x.term(0, 64.0, T, ONE);
        x.size(4.0, 1.0);
        x.go(EULER, 2.78);
        double g = 64.0 * t;
        double z = 0.0 + h * g;
        boolean differs = false;
        for (double m = 0.0625; m < 1.0; m += 0.0625) {
            double due = hermite(m, h, g, z, 64.0 * (t + h));
            differs = differs || due != hermite(m, h, g, z, 64.0 * 2.78);
            Check.due("between at " + m + " of a step to an exact time", x.between(0, m), due);
        }
        Check.due("between: the end's time matters", differs, true);
    }

    private static double hermite(double m, double h, double g, double z, double q) {
        return (1.0 + 2.0 * m) * (1.0 - m) * (1.0 - m) * 0.0 + m * (1.0 - m) * (1.0 - m) * h * g
            + m * m * (3.0 - 2.0 * m) * z + m * m * (m - 1.0) * h * q;
    }

    /** PAIR's error from 0.0 on, for the derivative c * t * t. */
    private static double squaresError(double c, double h) {
        double k2 = c * (0.5 * h) * (0.5 * h);
        double k3 = c * (0.75 * h) * (0.75 * h);
        double k4 = c * h * h;
        double error = h / 72.0 * (6.0 * k2 + 8.0 * k3 - 5.0 * 0.0 - 9.0 * k4);
        return Math.abs(error);
    }

    // "when the error is above the TOLERANCE, the step is not taken"; an error's sign does not count
    private static void pairErrorAboveTolerance() {
        for (double c : new double[] {64.0, -64.0, 40.0, -33.3}) {
            double error = squaresError(c, 1.0);
            OdeBench same = squares(c, 1.0, error);
            Check.due("error = tolerance: one step", same.go(PAIR, 1.0), 1);
            Check.due("error = tolerance: none refused", same.steps(true), 0);
            OdeBench above = squares(c, 1.0, Math.nextDown(error));
            Check.due("error above the tolerance: two halves", above.go(PAIR, 1.0), 2);
            Check.due("error above the tolerance: one refused", above.steps(true), 1);
        }
    }

    // The error "is the max of" all values' errors.
    private static void pairErrorOfAnyValue() {
        double error = squaresError(64.0, 1.0);
        for (int i = 0; i < 3; i++) {
            for (double tolerance : new double[] {error, Math.nextDown(error)}) {
                OdeBench x = bench(3);
                for (int j = 0; j < 3; j++) {
                    x.term(j, i == j ? -64.0 : 1.0, T, T);
                }
                x.size(1.0, tolerance);
                x.go(PAIR, 1.0);
                Check.due("the error of value " + i, x.steps(true), tolerance < error ? 1 : 0);
            }
        }
    }

    // "and h becomes 0.5 * H": half of the step that was tried, also when that was shorter than h
    private static void pairHalvesItsStep() {
        OdeBench x = squares(64.0, 4.0, 1.0);
        Check.due("halved: two steps of 0.5", x.go(PAIR, 1.0), 2);
        Check.due("halved: one refused", x.steps(true), 1);
        Check.due("halved: the last step began in the middle", x.between(0, 0.0) > 0.0, true);
        Check.due("halved: h", x.nextSize(), 0.5);
    }

    // A step "not taken" leaves t, y, the last step and the events as they were.
    private static void pairRefusedLeavesAll() {
        Supplier<OdeBench> begun = () -> {
            OdeBench x = growth(8.0, -24.0);
            x.watch(0, -20.0);
            x.size(0x1p-10, 1.0);
            x.step(EULER);
            return x;
        };
        // 4.0E-6 and 2.0E-6 are refused, and 1.0E-6 fails
        Twins.alike("refused for its error", 3, () -> {
            OdeBench x = begun.get();
            x.size(4.0E-6, TINY);
            Check.refuses("too small a tolerance", FAILS, () -> x.go(PAIR, x.time() + 1.0));
            x.size(0.125, 1.0);
            return x;
        }, () -> {
            OdeBench x = begun.get();
            x.size(0.125, 1.0);
            return x;
        });
    }

    // "(when that is below 1.0E-6 it fails)"
    private static void pairTooSmall() {
        OdeBench edge = growth(8.0, 24.0);
        edge.size(2.0E-6, TINY);
        Check.refuses("1.0E-6 is not below", FAILS, () -> edge.go(PAIR, 1.0));
        Check.due("1.0E-6 is tried", edge.steps(true), 2);
        Check.due("1.0E-6 is halved", edge.nextSize(), 0.5E-6);
        OdeBench below = growth(8.0, 24.0);
        below.size(Math.nextDown(2.0E-6), TINY);
        Check.refuses("below 1.0E-6", FAILS, () -> below.go(PAIR, 1.0));
        Check.due("below 1.0E-6: not tried", below.steps(true), 1);
        Check.due("below 1.0E-6: h", below.nextSize(), Math.nextDown(1.0E-6));
        Check.due("below 1.0E-6: the value stays", below.at(0), 24.0);
        Check.due("below 1.0E-6: the time stays", below.time(), 0.0);
        Check.due("below 1.0E-6: none taken", below.steps(false), 0);
        Check.refuses("below 1.0E-6: no last step", NONE, () -> below.between(0, 0.5));
        // 1.0E-6 may do: the error is about H * H * H * 512
        OdeBench taken = growth(8.0, 24.0);
        taken.size(2.0E-6, 0.5 * (pairError(2.0E-6) + pairError(1.0E-6)));
        Check.due("2.0E-6 is too much, 1.0E-6 is not", taken.go(PAIR, 2.0E-6), 2);
        Check.due("2.0E-6 was refused", taken.steps(true), 1);
    }

    /** PAIR's error for the derivative 8.0 * y at 24.0. */
    private static double pairError(double h) {
        double k1 = 8.0 * 24.0;
        double k2 = 8.0 * (24.0 + 0.5 * h * k1);
        double k3 = 8.0 * (24.0 + 0.75 * h * k2);
        double k4 = 8.0 * (24.0 + h / 9.0 * (2.0 * k1 + 3.0 * k2 + 4.0 * k3));
        return Math.abs(h / 72.0 * (6.0 * k2 + 8.0 * k3 - 5.0 * k1 - 9.0 * k4));
    }

    // The same of a step that was shorter than h.
    private static void pairTooSmallWhenShortened() {
        OdeBench x = growth(8.0, 24.0);
        x.size(1.0, TINY);
        Check.refuses("half of a shorter step", FAILS, () -> x.go(PAIR, 1.5E-6));
        Check.due("half of a shorter step: one refused", x.steps(true), 1);
        Check.due("half of a shorter step: h", x.nextSize(), 0.75E-6);
        // a step that is small from the first is fine when its error is
        OdeBench small = growth(8.0, 24.0);
        small.size(1.0E-7, 1.0);
        Check.due("a small step", small.go(PAIR, 1.0E-7), 1);
        Check.due("a small step doubles h", small.nextSize(), 2.0E-7);
    }

    // "h becomes 2.0 * H, when the error is below the tolerance / 16.0"
    private static void pairErrorBelowSixteenth() {
        double error = squaresError(64.0, 0.25);
        OdeBench same = squares(64.0, 0.25, 16.0 * error);
        same.go(PAIR, 0.25);
        Check.due("error = tolerance / 16.0: h stays", same.nextSize(), 0.25);
        OdeBench below = squares(64.0, 0.25, Math.nextUp(16.0 * error));
        below.go(PAIR, 0.25);
        Check.due("error below tolerance / 16.0: h doubles", below.nextSize(), 0.5);
        OdeBench shortSame = squares(64.0, 4.0, 16.0 * error);
        shortSame.go(PAIR, 0.25);
        Check.due("a shorter step, error = tolerance / 16.0: h stays", shortSame.nextSize(), 4.0);
        OdeBench shortBelow = squares(64.0, 4.0, Math.nextUp(16.0 * error));
        shortBelow.go(PAIR, 0.25);
        Check.due("a shorter step, error below tolerance / 16.0: twice that step", shortBelow.nextSize(), 0.5);
        OdeBench none = squares(0.0, 0.25, TINY);
        none.go(PAIR, 0.25);
        Check.due("the least tolerance / 16.0 is 0.0, and no error is below it", none.nextSize(), 0.25);
    }

    // "but not above 1.0"
    private static void pairNotAboveOne() {
        double[] sizes = {0.25, Math.nextDown(0.5), 0.5, Math.nextUp(0.5), 0.75, 1.0, Math.nextUp(1.0), 4.0};
        for (double h : sizes) {
            OdeBench x = bench(1);
            x.size(h, 1.0);
            Check.due("one step of " + h, x.go(PAIR, h), 1);
            Check.due("h behind a step of " + h, x.nextSize(), h < 0.5 ? 2.0 * h : 1.0);
        }
    }

    // A step beyond 1.0E6 FAILS, and is not tried again with half its size for its error.
    private static void pairFailsBeforeItRefuses() {
        OdeBench x = growth(8.0, 1000.0);
        x.size(4.0, 0.001);
        Check.refuses("too far, with a great error too", FAILS, () -> x.go(PAIR, 4.0));
        Check.due("too far: one refused", x.steps(true), 1);
        Check.due("too far: h stays", x.nextSize(), 4.0);
    }

    // Promise 6: "(PAIR too, whatever its error; h stays)"
    private static void stepOfPairKeepsItsSize() {
        OdeBench great = squares(64.0, 1.0, TINY);
        great.step(PAIR);
        Check.due("step(PAIR) with a great error: taken", great.steps(false), 1);
        Check.due("step(PAIR) with a great error: not refused", great.steps(true), 0);
        Check.due("step(PAIR) with a great error: h stays", great.nextSize(), 1.0);
        Check.due("step(PAIR) with a great error: time", great.time(), 1.0);
        OdeBench none = squares(0.0, 0.25, 4.0);
        none.step(PAIR);
        Check.due("step(PAIR) without an error: h stays", none.nextSize(), 0.25);
    }

    // "(h is kept; but for PAIR it does not change.)"
    private static void sizeIsKept() {
        for (int method = 0; method <= 5; method++) {
            OdeBench x = line(1.0, 0.0);
            x.size(0.25, 4.0);
            x.go(method, 1.125);
            // PAIR: 0.25, 0.5, and the 0.375 that are left
            Check.due("h behind going on with " + method, x.nextSize(), method == PAIR ? 0.75 : 0.25);
            Check.due("how far with " + method, x.time(), 1.125);
            double h = x.nextSize();
            x.step(EULER);
            Check.due("h is that of the next step", x.time(), 1.125 + h);
        }
    }

    // "At most 100 steps .. when the time is not reached then, it STOPS."
    private static void hundredSteps() {
        for (int method = 0; method <= 5; method++) {
            int one = method;
            OdeBench enough = squares(0.0, 0.5, TINY);
            Check.due("100 steps of " + method, enough.go(method, 50.0), 100);
            Check.due("100 steps: there", enough.time(), 50.0);
            OdeBench tooFew = squares(0.0, 0.5, TINY);
            Check.refuses("101 steps of " + method, FAILS, () -> tooFew.go(one, Math.nextUp(50.0)));
            Check.due("101 steps: 100 taken", tooFew.steps(false), 100);
            Check.due("101 steps: none refused", tooFew.steps(true), 0);
            Check.due("101 steps: how far", tooFew.time(), 50.0);
            Check.due("101 steps: the last one", tooFew.go(method, Math.nextUp(50.0)), 1);
        }
    }

    // "At most 100 steps, taken or not"
    private static void hundredTries() {
        // a step of 1.0 has an error of 1 / 24, one of 0.5 an eighth of that, which is not below 0.03 / 16
        OdeBench enough = squares(1.0, 1.0, 0.03);
        Check.due("one refused and 99 taken", enough.go(PAIR, 49.5), 99);
        Check.due("one refused", enough.steps(true), 1);
        OdeBench tooFew = squares(1.0, 1.0, 0.03);
        Check.refuses("one refused and 100 needed", FAILS, () -> tooFew.go(PAIR, 50.0));
        Check.due("one refused: 99 taken", tooFew.steps(false), 99);
        Check.due("one refused: counted", tooFew.steps(true), 1);
        Check.due("one refused: how far", tooFew.time(), 49.5);
        Check.due("one refused: h", tooFew.nextSize(), 0.5);
        Check.due("one refused: the last one", tooFew.go(PAIR, 50.0), 1);
    }

    private static OdeBench swinging() {
        OdeBench x = bench(2);
        x.term(0, 1.0, 1, ONE);
        x.term(1, -1.0, 0, ONE);
        x.value(0, 1.0);
        x.watch(1, 0.25);
        x.size(0.25, 0.5);
        return x;
    }

    // Promise 7: "or it stops (what was done before stays)"
    private static void stoppedGoingIsItsSteps() {
        for (int method = 0; method <= 5; method++) {
            if (method == PAIR) {
                continue;
            }
            int one = method;
            Twins.alike("going on that stops, with " + method, 0, () -> {
                OdeBench x = swinging();
                Check.refuses("101 steps", FAILS, () -> x.go(one, 25.25));
                return x;
            }, () -> {
                OdeBench x = swinging();
                for (int k = 0; k < 100; k++) {
                    x.step(one);
                }
                return x;
            });
        }
    }

    // Promise 7: "a step fails .. (what was done before stays)"
    private static void failedGoingIsItsSteps() {
        Twins.alike("going on that fails", 0, () -> {
            OdeBench x = growingTwo();
            Check.refuses("the tenth step fails", FAILS, () -> x.go(EULER, 10.0));
            return x;
        }, () -> {
            OdeBench x = growingTwo();
            for (int k = 0; k < 9; k++) {
                x.step(EULER);
            }
            Check.refuses("the tenth step fails alone", FAILS, () -> x.step(EULER));
            return x;
        });
    }

    private static OdeBench growingTwo() {
        OdeBench x = bench(2);
        x.term(0, 8.0, 0, ONE);
        x.term(1, 1.0, ONE, ONE);
        x.value(0, 1000.0);
        x.value(1, -0.3);
        x.watch(1, 0.0);
        return x;
    }

    // Promise 16: "not taken, for their error or because they failed"
    private static void stepsAreCounted() {
        OdeBench x = squares(64.0, 1.0, 1.0);
        x.go(PAIR, 1.0);
        Check.due("one not taken for its error", x.steps(true), 1);
        Check.due("two taken", x.steps(false), 2);
        x.term(0, 64.0, 0, 0);
        x.value(0, 1000.0);
        Check.refuses("a step that fails", FAILS, () -> x.step(RUNGE));
        Check.due("one more not taken", x.steps(true), 2);
        Check.refuses("going on that fails", FAILS, () -> x.go(IMPLICIT, 2.0));
        Check.due("and one more", x.steps(true), 3);
        Check.refuses("a wrong method", IllegalArgumentException.class, () -> x.step(6));
        Check.refuses("a wrong time", IllegalArgumentException.class, () -> x.go(EULER, 1.0));
        Check.due("no step at all", x.steps(true), 3);
        Check.due("still two taken", x.steps(false), 2);
    }

    private static int eventsOfAStep(double from, double slope, double level) {
        OdeBench x = line(slope, from);
        x.watch(0, level);
        x.step(EULER);
        return x.events();
    }

    // EVENTS: "(0.0 counts as above)", of the difference before and behind the step
    private static void zeroCountsAsAbove() {
        for (double level : new double[] {0.0, -0.0, 1.0, -3.0, 999.0}) {
            Check.due("from the level up", eventsOfAStep(level, 8.0, level), 0);
            Check.due("from the level down", eventsOfAStep(level, -8.0, level), 1);
            Check.due("from just below up", eventsOfAStep(Math.nextDown(level), 8.0, level), 1);
            Check.due("from just below down", eventsOfAStep(Math.nextDown(level), -8.0, level), 0);
            Check.due("from just above up", eventsOfAStep(Math.nextUp(level), 8.0, level), 0);
            Check.due("from just above down", eventsOfAStep(Math.nextUp(level), -8.0, level), 1);
            Check.due("up to the level", eventsOfAStep(level - 1.0, 8.0, level), 1);
            Check.due("down to the level", eventsOfAStep(level + 1.0, -8.0, level), 0);
            Check.due("resting at the level", eventsOfAStep(level, 0.0, level), 0);
        }
        Check.due("from -0.0 up", eventsOfAStep(-0.0, 8.0, 0.0), 0);
        Check.due("from -0.0 down", eventsOfAStep(-0.0, -8.0, 0.0), 1);
        Check.due("up to just below", eventsOfAStep(-1.0 - 0x1p-52, 8.0, 0.0), 0);
    }

    // The same of the value between: a line goes through the level at m = 0.5, which is the first m tried.
    private static void zeroCountsAsAboveInTheSearch() {
        OdeBench up = line(16.0, -1.0);
        up.watch(0, 0.0);
        up.step(EULER);
        Check.due("up: 0.0 at m = 0.5", up.between(0, 0.5), 0.0);
        Check.due("up: 0.0 is not as before, so the search goes back", up.event(0), 0.125 * (0.5 - 0x1p-20));
        OdeBench down = line(-16.0, 1.0);
        down.watch(0, 0.0);
        down.step(EULER);
        Check.due("down: 0.0 at m = 0.5", down.between(0, 0.5), 0.0);
        Check.due("down: 0.0 is as before, so the search goes on", down.event(0), 0.125 * (0.5 + 0x1p-20));
    }

    // EVENTS: "20 times", "t + m * H of the last m": at either end the last m is 2^-20 from it
    private static void twentyHalvings() {
        OdeBench first = line(-8.0, 0.0);
        first.watch(0, 0.0);
        first.step(EULER);
        Check.due("the event at a step's beginning", first.event(0), 0.125 * 0x1p-20);
        OdeBench last = line(8.0, -1.0);
        last.watch(0, 0.0);
        last.step(EULER);
        Check.due("the event at a step's end", last.event(0), 0.125 * (1.0 - 0x1p-20));
        OdeBench later = line(-8.0, 1.0);
        later.watch(0, 0.0);
        later.step(EULER);
        later.step(EULER);
        Check.due("the event at a later step's beginning", later.event(0), 0.125 + 0x1p-20 * 0.125);
        OdeBench shorter = line(-8.0, 1.0);
        shorter.watch(0, 0.0);
        shorter.go(EULER, 0.1875);
        Check.due("the event at a shorter step's beginning", shorter.event(0), 0.125 + 0x1p-20 * 0.0625);
    }

    // EVENTS: "behind each step taken"
    private static void eventsOfStepsTaken() {
        OdeBench failed = bench(1);
        failed.term(0, -64.0, 0, 0);
        failed.value(0, 1000.0);
        failed.watch(0, 0.0);
        Check.refuses("a step far below the level", FAILS, () -> failed.step(EULER));
        Check.due("a step that failed: no event", failed.events(), 0);
        // from 0.0 to 64 / 3, refused; then to 8 / 3, and on to 64 / 3
        OdeBench refused = squares(64.0, 1.0, 1.0);
        refused.watch(0, 10.0);
        refused.go(PAIR, 0.5);
        Check.due("a step of 0.5, not through the level", refused.events(), 0);
        refused.size(1.0, 1.0);
        refused.value(0, 0.0);
        refused.go(PAIR, 1.5);
        Check.due("a step refused before", refused.steps(true) > 0, true);
        Check.due("one event, of the step taken", refused.events(), 1);
        OdeBench set = line(0.0, -1.0);
        set.watch(0, 0.0);
        set.step(EULER);
        set.value(0, 1.0);
        Check.due("a value set is no step", set.events(), 0);
        set.step(EULER);
        Check.due("nor is the step behind it an event", set.events(), 0);
    }

    // Promise 8: "from now on"
    private static void eventsFromNowOn() {
        OdeBench x = line(8.0, -0.5);
        x.step(EULER);
        x.watch(0, 0.0);
        Check.due("what was before the watch is no event", x.events(), 0);
        x.step(EULER);
        Check.due("behind the level no event", x.events(), 0);
        x.watch(0, 2.0);
        x.step(EULER);
        Check.due("through the level an event", x.events(), 1);
        // watched once a step is done, the level lies between that step's ends
        x.watch(0, 2.0);
        Check.due("a watch alone is no event", x.events(), 1);
    }

    // Promise 8: "(in place of another watch; events that there are stay)"
    private static void eventsOfAnotherWatch() {
        OdeBench x = bench(2);
        x.term(0, -16.0, 0, ONE);
        x.value(0, 1.0);
        x.value(1, 1.0);
        x.watch(0, 0.0);
        x.step(EULER);
        x.step(EULER);
        double first = x.event(1);
        double second = x.event(0);
        x.watch(1, 0.0);
        Check.due("the events stay", x.events(), 2);
        Check.due("the first one's time stays", x.event(1), first);
        Check.due("the second one's time stays", x.event(0), second);
        x.step(EULER);
        Check.due("the first value is not watched any more", x.events(), 2);
        x.watch(0, 500.0);
        x.step(EULER);
        Check.due("nor is the first level", x.events(), 2);
        x.watch(0, 0.0);
        x.step(EULER);
        Check.due("watched again", x.events(), 3);
        Check.due("the earlier one is still there", x.event(2), first);
    }
}
