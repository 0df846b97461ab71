import java.util.NoSuchElementException;

/** Ordinary differential equations of up to three values, with six ways to make steps. */
public final class OdeBench {
    private static final int MOST_VALUES = 3;
    private static final int MOST_TRIES = 100;

    private static final int EULER = 0;
    private static final int RUNGE = 1;
    private static final int PAIR = 2;
    private static final int ADAMS = 3;
    private static final int IMPLICIT = 4;
    private static final int MIDPOINTS = 5;

    private final double[] values = new double[MOST_VALUES];
    private final double[] slopesNow = new double[MOST_VALUES];
    private final Equations equations = new Equations();
    private final Trial trial = new Trial(equations, values);
    private final LastStep last = new LastStep(equations);
    private final Watch watching = new Watch();
    private double now;
    private double stepSize;
    private double tolerance;
    private int taken;
    private int refused;
    private boolean adamsGoesOn;

    public OdeBench() {
        startAfresh(1);
    }

    public void system(int n) throws IllegalArgumentException {
        if (n < 1 || n > MOST_VALUES) {
            throw new IllegalArgumentException("a system has 1 to 3 values");
        }
        startAfresh(n);
    }

    public int term(int i, double c, int a, int b) throws IllegalArgumentException, IllegalStateException {
        if (!equations.hasValue(i) || !equations.hasFactor(a) || !equations.hasFactor(b)) {
            throw new IllegalArgumentException("no such value or factor");
        }
        if (!isWithin(c, 64.0)) {
            throw new IllegalArgumentException("c is not from -64.0 to 64.0");
        }
        if (equations.isFull()) {
            throw new IllegalStateException("there are 10 terms");
        }
        equations.add(i, c, a, b);
        breakOff();
        return equations.count;
    }

    public void value(int i, double v) throws IllegalArgumentException {
        if (!equations.hasValue(i) || !isWithin(v, 1000.0)) {
            throw new IllegalArgumentException("no such value, or it is not from -1000.0 to 1000.0");
        }
        values[i] = v;
        breakOff();
    }

    public void size(double h, double tolerance) throws IllegalArgumentException {
        if (!isSize(h) || !isSize(tolerance)) {
            throw new IllegalArgumentException("not above 0.0, or above 4.0");
        }
        this.stepSize = h;
        this.tolerance = tolerance;
    }

    public void step(int method) throws IllegalArgumentException, ArithmeticException {
        if (!isMethod(method)) {
            throw new IllegalArgumentException("no such method");
        }
        if (!tryStep(method, stepSize)) {
            refuse();
            throw new ArithmeticException("the step fails");
        }
        take(method, now + stepSize);
    }

    public int go(int method, double time) throws IllegalArgumentException, ArithmeticException {
        if (!isMethod(method) || !(time > now) || time > now + 100.0) {
            throw new IllegalArgumentException("no such method, or a time that can't be gone to");
        }
        int takenBefore = taken;
        for (int tries = 0; tries < MOST_TRIES && now < time; tries++) {
            if (!stepTowards(method, time)) {
                throw new ArithmeticException("a step fails");
            }
        }
        if (now < time) {
            throw new ArithmeticException("the time is not reached in 100 steps");
        }
        return taken - takenBefore;
    }

    public void watch(int e, double level) throws IllegalArgumentException {
        if (!equations.hasValue(e) || !isWithin(level, 1000.0)) {
            throw new IllegalArgumentException("no such value, or the level is not from -1000.0 to 1000.0");
        }
        watching.turnTo(e, level);
    }

    public int events() {
        return watching.count;
    }

    public double event(int k) throws NoSuchElementException {
        if (!watching.remembers(k)) {
            throw new NoSuchElementException("no such event");
        }
        return watching.latest(k);
    }

    public double at(int i) throws IllegalArgumentException {
        if (!equations.hasValue(i)) {
            throw new IllegalArgumentException("no such value");
        }
        return values[i];
    }

    public double derivative(int i) throws IllegalArgumentException {
        if (!equations.hasValue(i)) {
            throw new IllegalArgumentException("no such value");
        }
        equations.slopes(now, values, slopesNow);
        return slopesNow[i];
    }

    public double between(int i, double m) throws IllegalArgumentException, NoSuchElementException {
        if (!equations.hasValue(i) || !(m >= 0.0 && m <= 1.0)) {
            throw new IllegalArgumentException("no such value, or m is not from 0.0 to 1.0");
        }
        if (!last.known) {
            throw new NoSuchElementException("there is no last step");
        }
        return last.inside(i, m);
    }

    public double time() {
        return now;
    }

    public double nextSize() {
        return stepSize;
    }

    public int steps(boolean refused) {
        return refused ? this.refused : taken;
    }

    private void startAfresh(int n) {
        equations.clear(n);
        watching.clear();
        for (int i = 0; i < MOST_VALUES; i++) {
            values[i] = 0.0;
        }
        now = 0.0;
        stepSize = 0.125;
        tolerance = 0.125;
        taken = 0;
        refused = 0;
        breakOff();
    }

    /** The last step no longer belongs to the values and terms that there are now. */
    private void breakOff() {
        last.known = false;
        adamsGoesOn = false;
    }

    /** Reckons a step without taking it; false when it fails. */
    private boolean tryStep(int method, double reach) {
        trial.begin(now, reach);
        boolean goesOn = adamsGoesOn && last.reach == reach;
        return trial.reckon(method, goesOn, last.startSlope);
    }

    /** One try on the way to a time; false when it fails (a step refused for its error has not failed). */
    private boolean stepTowards(int method, double time) {
        boolean arrives = now + stepSize > time;
        double reach = arrives ? time - now : stepSize;
        if (!tryStep(method, reach)) {
            refuse();
            return false;
        }
        if (method == PAIR && trial.error > tolerance) {
            refuse();
            stepSize = 0.5 * reach;
            return stepSize >= 1.0E-6;
        }
        // now + (time - now) may be rounded past or short of the time
        take(method, arrives ? time : now + reach);
        if (method == PAIR && trial.error < tolerance / 16.0) {
            stepSize = 2.0 * reach > 1.0 ? 1.0 : 2.0 * reach;
        }
        return true;
    }

    private void refuse() {
        refused++;
        adamsGoesOn = false;
    }

    private void take(int method, double timeBehind) {
        last.keep(trial);
        for (int i = 0; i < equations.n; i++) {
            values[i] = trial.z[i];
        }
        now = timeBehind;
        taken++;
        adamsGoesOn = method == ADAMS;
        watching.look(last);
    }

    private static boolean isMethod(int method) {
        return method >= EULER && method <= MIDPOINTS;
    }

    // Written so that a NaN from the caller is outside, too.
    private static boolean isWithin(double x, double bound) {
        return x >= -bound && x <= bound;
    }

    private static boolean isSize(double x) {
        return x > 0.0 && x <= 4.0;
    }

    private static double sizeOf(double x) {
        return x < 0.0 ? -x : x;
    }

    private static double greatest(double[] numbers, int n) {
        double most = 0.0;
        for (int i = 0; i < n; i++) {
            double one = sizeOf(numbers[i]);
            most = one > most ? one : most;
        }
        return most;
    }

    /** How many values there are, and the terms of their derivatives. */
    private static final class Equations {
        private static final int MOST_TERMS = 10;
        private static final int TIME = 3;
        private static final int ONE = 4;

        private final int[] owner = new int[MOST_TERMS];
        private final double[] constant = new double[MOST_TERMS];
        private final int[] left = new int[MOST_TERMS];
        private final int[] right = new int[MOST_TERMS];
        int n;
        int count;

        void clear(int howManyValues) {
            n = howManyValues;
            count = 0;
        }

        boolean hasValue(int i) {
            return i >= 0 && i < n;
        }

        boolean hasFactor(int k) {
            return hasValue(k) || k == TIME || k == ONE;
        }

        boolean isFull() {
            return count >= MOST_TERMS;
        }

        void add(int i, double c, int a, int b) {
            owner[count] = i;
            constant[count] = c;
            left[count] = a;
            right[count] = b;
            count++;
        }

        /** All derivatives in one walk: each sum still goes through its own terms in order. */
        void slopes(double t, double[] y, double[] into) {
            for (int i = 0; i < n; i++) {
                into[i] = 0.0;
            }
            for (int k = 0; k < count; k++) {
                int i = owner[k];
                into[i] = into[i] + constant[k] * factor(left[k], t, y) * factor(right[k], t, y);
            }
        }

        /** The derivative of slope i with respect to value j. */
        double slopeBy(int i, int j, double t, double[] y) {
            double sum = 0.0;
            for (int k = 0; k < count; k++) {
                if (owner[k] == i && left[k] == j) {
                    sum = sum + constant[k] * factor(right[k], t, y);
                }
                if (owner[k] == i && right[k] == j) {
                    sum = sum + constant[k] * factor(left[k], t, y);
                }
            }
            return sum;
        }

        private double factor(int k, double t, double[] y) {
            if (k >= 0 && k < n) {
                return y[k];
            }
            return k == TIME ? t : 1.0;
        }
    }

    /** A step that is reckoned but not yet taken: where it would lead, and PAIR's error. */
    private static final class Trial {
        private final Equations equations;
        private final Implicit implicit;
        private final Midpoints midpoints;
        private final double[] k2 = new double[MOST_VALUES];
        private final double[] k3 = new double[MOST_VALUES];
        private final double[] k4 = new double[MOST_VALUES];
        private final double[] stage = new double[MOST_VALUES];
        final double[] y;
        final double[] k1 = new double[MOST_VALUES];
        final double[] z = new double[MOST_VALUES];
        double from;
        double reach;
        double error; // of the last step of PAIR

        Trial(Equations equations, double[] values) {
            this.equations = equations;
            this.y = values;
            this.implicit = new Implicit(equations);
            this.midpoints = new Midpoints(equations);
        }

        void begin(double t, double size) {
            from = t;
            reach = size;
            equations.slopes(from, y, k1);
        }

        /** False when the step fails. */
        boolean reckon(int method, boolean adamsGoesOn, double[] earlierSlope) {
            boolean solved = true;
            switch (method) {
                case EULER:
                    move(y, reach, k1, z);
                    break;
                case PAIR:
                    pair();
                    break;
                case ADAMS:
                    if (adamsGoesOn) {
                        adams(earlierSlope);
                    } else {
                        runge();
                    }
                    break;
                case IMPLICIT:
                    solved = implicit.solve(from + reach, reach, y, z);
                    break;
                case MIDPOINTS:
                    midpoints.refine(this);
                    break;
                case RUNGE:
                default:
                    runge();
                    break;
            }
            return solved && !(greatest(z, equations.n) > 1.0E6);
        }

        private void runge() {
            slopesAfter(0.5 * reach, k1, k2);
            slopesAfter(0.5 * reach, k2, k3);
            slopesAfter(reach, k3, k4);
            for (int i = 0; i < equations.n; i++) {
                z[i] = y[i] + reach / 6.0 * (k1[i] + 2.0 * k2[i] + 2.0 * k3[i] + k4[i]);
            }
        }

        private void pair() {
            slopesAfter(0.5 * reach, k1, k2);
            slopesAfter(0.75 * reach, k2, k3);
            for (int i = 0; i < equations.n; i++) {
                z[i] = y[i] + reach / 9.0 * (2.0 * k1[i] + 3.0 * k2[i] + 4.0 * k3[i]);
            }
            equations.slopes(from + reach, z, k4);
            for (int i = 0; i < equations.n; i++) {
                stage[i] = reach / 72.0 * (6.0 * k2[i] + 8.0 * k3[i] - 5.0 * k1[i] - 9.0 * k4[i]);
            }
            error = greatest(stage, equations.n);
        }

        private void adams(double[] earlierSlope) {
            for (int i = 0; i < equations.n; i++) {
                stage[i] = y[i] + reach * (1.5 * k1[i] - 0.5 * earlierSlope[i]);
            }
            equations.slopes(from + reach, stage, k2);
            for (int i = 0; i < equations.n; i++) {
                z[i] = y[i] + 0.5 * reach * (k2[i] + k1[i]);
            }
        }

        /** The slopes a part of the step further on, when it is gone along the given ones. */
        private void slopesAfter(double part, double[] along, double[] into) {
            move(y, part, along, stage);
            equations.slopes(from + part, stage, into);
        }

        private void move(double[] start, double by, double[] along, double[] into) {
            for (int i = 0; i < equations.n; i++) {
                into[i] = start[i] + by * along[i];
            }
        }
    }

    /** Two coarse walks over midpoints, and what they would lead to if they were finer. */
    private static final class Midpoints {
        private final Equations equations;
        private final double[] behind = new double[MOST_VALUES];
        private final double[] ahead = new double[MOST_VALUES];
        private final double[] slope = new double[MOST_VALUES];
        private final double[] coarse = new double[MOST_VALUES];
        private final double[] fine = new double[MOST_VALUES];

        Midpoints(Equations equations) {
            this.equations = equations;
        }

        void refine(Trial trial) {
            walk(2, trial, coarse);
            walk(4, trial, fine);
            for (int i = 0; i < equations.n; i++) {
                trial.z[i] = fine[i] + (fine[i] - coarse[i]) / 3.0;
            }
        }

        /** Here m is 2 or 4. */
        private void walk(int m, Trial trial, double[] into) {
            double s = trial.reach / m;
            for (int i = 0; i < equations.n; i++) {
                behind[i] = trial.y[i];
                ahead[i] = trial.y[i] + s * trial.k1[i];
            }
            for (int q = 1; q < m; q++) {
                equations.slopes(trial.from + q * s, ahead, slope);
                for (int i = 0; i < equations.n; i++) {
                    double next = behind[i] + 2.0 * s * slope[i];
                    behind[i] = ahead[i];
                    ahead[i] = next;
                }
            }
            equations.slopes(trial.from + trial.reach, ahead, slope);
            for (int i = 0; i < equations.n; i++) {
                into[i] = 0.5 * (ahead[i] + behind[i] + s * slope[i]);
            }
        }
    }

    /** Solves the equations of the implicit step. */
    private static final class Implicit {
        private static final int MOST_ROUNDS = 8;

        private final Equations equations;
        private final double[][] matrix = new double[MOST_VALUES][MOST_VALUES];
        private final double[] rest = new double[MOST_VALUES];
        private final double[] change = new double[MOST_VALUES];

        Implicit(Equations equations) {
            this.equations = equations;
        }

        /** False when there is no solution to be found; z is then of no use. */
        boolean solve(double end, double reach, double[] y, double[] z) {
            int n = equations.n;
            for (int i = 0; i < n; i++) {
                z[i] = y[i];
            }
            for (int round = 0; round < MOST_ROUNDS; round++) {
                setRest(end, reach, y, z);
                setMatrix(end, reach, z);
                if (!eliminate(n)) {
                    return false;
                }
                substitute(n);
                for (int i = 0; i < n; i++) {
                    z[i] = z[i] - change[i];
                }
                if (!(greatest(change, n) > 1.0E-9)) {
                    return true;
                }
                if (greatest(z, n) > 1.0E9) {
                    return false;
                }
            }
            return false;
        }

        private void setRest(double end, double reach, double[] y, double[] z) {
            equations.slopes(end, z, rest);
            for (int i = 0; i < equations.n; i++) {
                rest[i] = z[i] - y[i] - reach * rest[i];
            }
        }

        private void setMatrix(double end, double reach, double[] z) {
            for (int i = 0; i < equations.n; i++) {
                for (int j = 0; j < equations.n; j++) {
                    double own = i == j ? 1.0 : 0.0;
                    matrix[i][j] = own - reach * equations.slopeBy(i, j, end, z);
                }
            }
        }

        /** False when a column has nothing left that could be divided by. */
        private boolean eliminate(int n) {
            for (int c = 0; c < n; c++) {
                exchange(c, pivotRow(c, n), n);
                if (sizeOf(matrix[c][c]) < 1.0E-9) {
                    return false;
                }
                for (int k = c + 1; k < n; k++) {
                    takeAway(c, k, n);
                }
            }
            return true;
        }

        private int pivotRow(int c, int n) {
            int best = c;
            for (int k = c + 1; k < n; k++) {
                if (sizeOf(matrix[k][c]) > sizeOf(matrix[best][c])) {
                    best = k;
                }
            }
            return best;
        }

        private void exchange(int one, int other, int n) {
            for (int j = 0; j < n; j++) {
                double kept = matrix[one][j];
                matrix[one][j] = matrix[other][j];
                matrix[other][j] = kept;
            }
            double kept = rest[one];
            rest[one] = rest[other];
            rest[other] = kept;
        }

        /** Row c's own entry in column c is at least 1.0E-9 in size here. */
        private void takeAway(int c, int k, int n) {
            double times = matrix[k][c] / matrix[c][c];
            for (int j = c; j < n; j++) {
                matrix[k][j] = matrix[k][j] - times * matrix[c][j];
            }
            rest[k] = rest[k] - times * rest[c];
        }

        private void substitute(int n) {
            for (int i = n - 1; i >= 0; i--) {
                double left = rest[i];
                for (int j = i + 1; j < n; j++) {
                    left = left - matrix[i][j] * change[j];
                }
                change[i] = left / matrix[i][i];
            }
        }
    }

    /** The last step taken, for the values between its ends. */
    private static final class LastStep {
        private final Equations equations;
        private final double[] endSlope = new double[MOST_VALUES];
        final double[] start = new double[MOST_VALUES];
        final double[] startSlope = new double[MOST_VALUES];
        final double[] end = new double[MOST_VALUES];
        boolean known;
        double from;
        double reach;

        LastStep(Equations equations) {
            this.equations = equations;
        }

        void keep(Trial trial) {
            for (int i = 0; i < equations.n; i++) {
                start[i] = trial.y[i];
                startSlope[i] = trial.k1[i];
                end[i] = trial.z[i];
            }
            from = trial.from;
            reach = trial.reach;
            equations.slopes(from + reach, end, endSlope);
            known = true;
        }

        double inside(int i, double m) {
            return (1.0 + 2.0 * m) * (1.0 - m) * (1.0 - m) * start[i]
                + m * (1.0 - m) * (1.0 - m) * reach * startSlope[i]
                + m * m * (3.0 - 2.0 * m) * end[i]
                + m * m * (m - 1.0) * reach * endSlope[i];
        }
    }

    /** The watch on a value, and the times of the latest events. */
    private static final class Watch {
        private static final int KEPT = 8;
        private static final int HALVINGS = 20;

        private final double[] times = new double[KEPT];
        private boolean on;
        private int which;
        private double level;
        int count;

        void clear() {
            on = false;
            count = 0;
        }

        void turnTo(int e, double newLevel) {
            on = true;
            which = e;
            level = newLevel;
        }

        boolean remembers(int k) {
            return k >= 0 && k < KEPT && k < count;
        }

        /** Asked only for a k that is remembered. */
        double latest(int k) {
            return times[Math.floorMod(count - 1 - k, KEPT)];
        }

        void look(LastStep taken) {
            if (!on) {
                return;
            }
            boolean began = isAbove(taken.start[which]);
            if (isAbove(taken.end[which]) != began) {
                times[Math.floorMod(count, KEPT)] = crossing(taken, began);
                count++;
            }
        }

        private double crossing(LastStep taken, boolean began) {
            double l = 0.0;
            double r = 1.0;
            double m = 0.5;
            for (int k = 0; k < HALVINGS; k++) {
                m = 0.5 * (l + r);
                if (isAbove(taken.inside(which, m)) == began) {
                    l = m;
                } else {
                    r = m;
                }
            }
            return taken.from + m * taken.reach;
        }

        private boolean isAbove(double value) {
            return value - level >= 0.0;
        }
    }
}
