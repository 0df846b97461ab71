import java.util.ArrayList;
import java.util.List;
import java.util.NoSuchElementException;

/**
 * The document once more, written only to be compared with: every step makes its rows anew, and every
 * formula stands for one value at a time, as the document has it.
 */
final class PlainModel {
    record Term(int i, double c, int a, int b) {
    }

    /** What the last step taken was. */
    record Taken(int method, double t, double size, double[] y, double[] z) {
    }

    /** Thrown inside a step that fails. */
    private static final class Failed extends Exception {
        private static final long serialVersionUID = 1L;
    }

    /** How often the rarer things happened, so that a test can tell that they did. */
    static int adamsContinued;
    static int rowsExchanged;
    static int noPivot;
    static int notSolved;
    static int tooFar;
    static int pairRefused;
    static int pairTooSmall;
    static int pairGrown;
    static int stopped;
    static int crossed;
    static int roundedPast;

    private int n = 1;
    private double[] y = new double[1];
    private double t = 0.0;
    private double h = 0.125;
    private double tolerance = 0.125;
    private List<Term> terms = new ArrayList<>();
    private boolean watched = false;
    private int watchedValue;
    private double level;
    private List<Double> eventTimes = new ArrayList<>();
    private Taken last = null;
    private boolean chain = false;
    private int takenCount = 0;
    private int refusedCount = 0;
    private double error;

    void system(int count) {
        if (count < 1 || count > 3) {
            throw new IllegalArgumentException();
        }
        n = count;
        y = new double[count];
        t = 0.0;
        h = 0.125;
        tolerance = 0.125;
        terms = new ArrayList<>();
        watched = false;
        eventTimes = new ArrayList<>();
        last = null;
        chain = false;
        takenCount = 0;
        refusedCount = 0;
    }

    private boolean isValue(int i) {
        return 0 <= i && i < n;
    }

    private boolean isFactor(int k) {
        return isValue(k) || k == 3 || k == 4;
    }

    private static boolean inside(double x, double least, double most) {
        return x >= least && x <= most;
    }

    int term(int i, double c, int a, int b) {
        if (!isValue(i) || !isFactor(a) || !isFactor(b) || !inside(c, -64.0, 64.0)) {
            throw new IllegalArgumentException();
        }
        if (terms.size() == 10) {
            throw new IllegalStateException();
        }
        terms.add(new Term(i, c, a, b));
        last = null;
        chain = false;
        return terms.size();
    }

    void value(int i, double v) {
        if (!isValue(i) || !inside(v, -1000.0, 1000.0)) {
            throw new IllegalArgumentException();
        }
        y = y.clone();
        y[i] = v;
        last = null;
        chain = false;
    }

    void size(double newH, double newTolerance) {
        if (!(newH > 0.0) || newH > 4.0 || !(newTolerance > 0.0) || newTolerance > 4.0) {
            throw new IllegalArgumentException();
        }
        h = newH;
        tolerance = newTolerance;
    }

    void step(int method) {
        if (method < 0 || method > 5) {
            throw new IllegalArgumentException();
        }
        try {
            double[] z = reckon(method, h);
            take(method, h, z, t + h);
        } catch (Failed e) {
            refusedCount++;
            chain = false;
            throw new ArithmeticException();
        }
    }

    int go(int method, double time) {
        if (method < 0 || method > 5 || !(time > t) || time > t + 100.0) {
            throw new IllegalArgumentException();
        }
        int before = takenCount;
        int tries = 0;
        while (t < time) {
            if (tries == 100) {
                stopped++;
                throw new ArithmeticException();
            }
            tries++;
            try {
                one(method, time);
            } catch (Failed e) {
                refusedCount++;
                chain = false;
                throw new ArithmeticException();
            }
        }
        return takenCount - before;
    }

    private void one(int method, double time) throws Failed {
        double size = h;
        double end = t + h;
        if (t + h > time) {
            size = time - t;
            end = time;
            if (t + size != time) {
                roundedPast++;
            }
        }
        double[] z = reckon(method, size);
        if (method == 2) {
            double off = error;
            if (off > tolerance) {
                pairRefused++;
                h = 0.5 * size;
                if (h < 1.0E-6) {
                    pairTooSmall++;
                    throw new Failed();
                }
                refusedCount++;
                chain = false;
                return;
            }
            take(method, size, z, end);
            if (off < tolerance / 16.0) {
                pairGrown++;
                h = Math.min(2.0 * size, 1.0);
            }
            return;
        }
        take(method, size, z, end);
    }

    private void take(int method, double size, double[] z, double end) {
        last = new Taken(method, t, size, y, z);
        double before = watched ? y[watchedValue] - level : 0.0;
        double behind = watched ? z[watchedValue] - level : 0.0;
        if (watched && (before < 0.0) != (behind < 0.0)) {
            crossed++;
            double l = 0.0;
            double r = 1.0;
            double m = 0.0;
            for (int k = 0; k < 20; k++) {
                m = 0.5 * (l + r);
                double there = between(watchedValue, m) - level;
                if ((there < 0.0) == (before < 0.0)) {
                    l = m;
                } else {
                    r = m;
                }
            }
            eventTimes.add(t + m * size);
        }
        y = z;
        t = end;
        takenCount++;
        chain = method == 3;
    }

    void watch(int e, double newLevel) {
        if (!isValue(e) || !inside(newLevel, -1000.0, 1000.0)) {
            throw new IllegalArgumentException();
        }
        watched = true;
        watchedValue = e;
        level = newLevel;
    }

    int events() {
        return eventTimes.size();
    }

    double event(int k) {
        if (k < 0 || k > 7 || k >= eventTimes.size()) {
            throw new NoSuchElementException();
        }
        return eventTimes.get(eventTimes.size() - 1 - k);
    }

    double at(int i) {
        if (!isValue(i)) {
            throw new IllegalArgumentException();
        }
        return y[i];
    }

    double derivative(int i) {
        if (!isValue(i)) {
            throw new IllegalArgumentException();
        }
        return f(i, t, y);
    }

    double between(int i, double m) {
        if (!isValue(i) || !inside(m, 0.0, 1.0)) {
            throw new IllegalArgumentException();
        }
        if (last == null) {
            throw new NoSuchElementException();
        }
        double g = f(i, last.t, last.y);
        double q = f(i, last.t + last.size, last.z);
        double first = (1.0 + 2.0 * m) * (1.0 - m) * (1.0 - m) * last.y[i];
        double second = m * (1.0 - m) * (1.0 - m) * last.size * g;
        double third = m * m * (3.0 - 2.0 * m) * last.z[i];
        double fourth = m * m * (m - 1.0) * last.size * q;
        return first + second + third + fourth;
    }

    double time() {
        return t;
    }

    double nextSize() {
        return h;
    }

    int steps(boolean refused) {
        return refused ? refusedCount : takenCount;
    }

    private double v(int k, double time, double[] at) {
        return k < n ? at[k] : k == 3 ? time : 1.0;
    }

    private double f(int i, double time, double[] at) {
        double sum = 0.0;
        for (Term one : terms) {
            if (one.i == i) {
                sum += one.c * v(one.a, time, at) * v(one.b, time, at);
            }
        }
        return sum;
    }

    private double[] f(double time, double[] at) {
        double[] all = new double[n];
        for (int i = 0; i < n; i++) {
            all[i] = f(i, time, at);
        }
        return all;
    }

    private double dBy(int i, int j, double time, double[] at) {
        double sum = 0.0;
        for (Term one : terms) {
            if (one.i == i) {
                sum += one.a == j ? one.c * v(one.b, time, at) : 0.0;
                sum += one.b == j ? one.c * v(one.a, time, at) : 0.0;
            }
        }
        return sum;
    }

    private static double max(double[] numbers) {
        double most = 0.0;
        for (double one : numbers) {
            most = Math.max(most, Math.abs(one));
        }
        return most;
    }

    private double[] reckon(int method, double size) throws Failed {
        double[] z;
        switch (method) {
            case 0 -> z = euler(size);
            case 1 -> z = runge(size);
            case 2 -> z = pair(size);
            case 3 -> z = chain && last.size == size ? adams(size) : runge(size);
            case 4 -> z = implicit(size);
            default -> z = midpoints(size);
        }
        if (max(z) > 1.0E6) {
            tooFar++;
            throw new Failed();
        }
        return z;
    }

    private double[] euler(double size) {
        double[] z = new double[n];
        for (int i = 0; i < n; i++) {
            z[i] = y[i] + size * f(i, t, y);
        }
        return z;
    }

    private double[] runge(double size) {
        double[] k1 = f(t, y);
        double[] y2 = new double[n];
        for (int i = 0; i < n; i++) {
            y2[i] = y[i] + 0.5 * size * k1[i];
        }
        double[] k2 = f(t + 0.5 * size, y2);
        double[] y3 = new double[n];
        for (int i = 0; i < n; i++) {
            y3[i] = y[i] + 0.5 * size * k2[i];
        }
        double[] k3 = f(t + 0.5 * size, y3);
        double[] y4 = new double[n];
        for (int i = 0; i < n; i++) {
            y4[i] = y[i] + size * k3[i];
        }
        double[] k4 = f(t + size, y4);
        double[] z = new double[n];
        for (int i = 0; i < n; i++) {
            z[i] = y[i] + size / 6.0 * (k1[i] + 2.0 * k2[i] + 2.0 * k3[i] + k4[i]);
        }
        return z;
    }

    private double[] pair(double size) {
        double[] k1 = f(t, y);
        double[] y2 = new double[n];
        for (int i = 0; i < n; i++) {
            y2[i] = y[i] + 0.5 * size * k1[i];
        }
        double[] k2 = f(t + 0.5 * size, y2);
        double[] y3 = new double[n];
        for (int i = 0; i < n; i++) {
            y3[i] = y[i] + 0.75 * size * k2[i];
        }
        double[] k3 = f(t + 0.75 * size, y3);
        double[] z = new double[n];
        for (int i = 0; i < n; i++) {
            z[i] = y[i] + size / 9.0 * (2.0 * k1[i] + 3.0 * k2[i] + 4.0 * k3[i]);
        }
        double[] k4 = f(t + size, z);
        double[] off = new double[n];
        for (int i = 0; i < n; i++) {
            off[i] = size / 72.0 * (6.0 * k2[i] + 8.0 * k3[i] - 5.0 * k1[i] - 9.0 * k4[i]);
        }
        error = max(off);
        return z;
    }

    private double[] adams(double size) {
        adamsContinued++;
        double[] p = new double[n];
        for (int i = 0; i < n; i++) {
            p[i] = y[i] + size * (1.5 * f(i, t, y) - 0.5 * f(i, last.t, last.y));
        }
        double[] z = new double[n];
        for (int i = 0; i < n; i++) {
            z[i] = y[i] + 0.5 * size * (f(i, t + size, p) + f(i, t, y));
        }
        return z;
    }

    private double[] implicit(double size) throws Failed {
        double[] z = y.clone();
        for (int times = 1; times <= 8; times++) {
            double[] r = new double[n];
            double[][] m = new double[n][n];
            for (int i = 0; i < n; i++) {
                r[i] = z[i] - y[i] - size * f(i, t + size, z);
                for (int j = 0; j < n; j++) {
                    double slope = dBy(i, j, t + size, z);
                    m[i][j] = i == j ? 1.0 - size * slope : 0.0 - size * slope;
                }
            }
            double[] d = solve(m, r);
            for (int i = 0; i < n; i++) {
                z[i] = z[i] - d[i];
            }
            if (max(d) <= 1.0E-9) {
                return z;
            }
            if (max(z) > 1.0E9) {
                break;
            }
        }
        notSolved++;
        throw new Failed();
    }

    private double[] solve(double[][] m, double[] r) throws Failed {
        for (int c = 0; c < n; c++) {
            int best = c;
            for (int k = n - 1; k > c; k--) {
                if (Math.abs(m[k][c]) > Math.abs(m[c][c]) && Math.abs(m[k][c]) >= Math.abs(m[best][c])) {
                    best = k;
                }
            }
            if (best != c) {
                rowsExchanged++;
                double[] row = m[c];
                m[c] = m[best];
                m[best] = row;
                double one = r[c];
                r[c] = r[best];
                r[best] = one;
            }
            if (Math.abs(m[c][c]) < 1.0E-9) {
                noPivot++;
                throw new Failed();
            }
            for (int k = c + 1; k < n; k++) {
                double factor = m[k][c] / m[c][c];
                for (int j = c; j < n; j++) {
                    m[k][j] -= factor * m[c][j];
                }
                r[k] -= factor * r[c];
            }
        }
        double[] d = new double[n];
        for (int i = n - 1; i >= 0; i--) {
            double less = r[i];
            for (int j = i + 1; j < n; j++) {
                less -= m[i][j] * d[j];
            }
            d[i] = less / m[i][i];
        }
        return d;
    }

    private double[] midpoints(double size) {
        double[] e2 = estimate(2, size);
        double[] e4 = estimate(4, size);
        double[] z = new double[n];
        for (int i = 0; i < n; i++) {
            z[i] = e4[i] + (e4[i] - e2[i]) / 3.0;
        }
        return z;
    }

    private double[] estimate(int m, double size) {
        double s = size / m;
        double[] u = y;
        double[] w = new double[n];
        for (int i = 0; i < n; i++) {
            w[i] = y[i] + s * f(i, t, y);
        }
        for (int q = 1; q <= m - 1; q++) {
            double[] x = new double[n];
            for (int i = 0; i < n; i++) {
                x[i] = u[i] + 2.0 * s * f(i, t + q * s, w);
            }
            u = w;
            w = x;
        }
        double[] e = new double[n];
        for (int i = 0; i < n; i++) {
            e[i] = 0.5 * (w[i] + u[i] + s * f(i, t + size, w));
        }
        return e;
    }
}
