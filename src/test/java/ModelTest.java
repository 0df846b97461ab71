import java.util.Random;

/** Drawn runs of calls (always the same ones): OdeBench and PlainModel must answer alike throughout. */
public final class ModelTest {
    private static final int RUNS = 12000;
    private static final int ACTIONS = 16;

    private final Random draw;
    private final OdeBench bench = new OdeBench();
    private final PlainModel model = new PlainModel();
    private final StringBuilder told = new StringBuilder();
    private int n = 1;

    private ModelTest(long seed) {
        draw = new Random(seed);
    }

    public static void main(String[] args) {
        for (int run = 0; run < RUNS && Check.wrong() == 0; run++) {
            new ModelTest(run).play();
        }
        happened("ADAMS went on", PlainModel.adamsContinued);
        happened("rows were exchanged", PlainModel.rowsExchanged);
        happened("a column had nothing to divide by", PlainModel.noPivot);
        happened("an implicit step was not solved", PlainModel.notSolved);
        happened("a step led too far", PlainModel.tooFar);
        happened("PAIR refused a step", PlainModel.pairRefused);
        happened("PAIR came to too small a size", PlainModel.pairTooSmall);
        happened("PAIR doubled its size", PlainModel.pairGrown);
        happened("going on stopped", PlainModel.stopped);
        happened("a value went through the level", PlainModel.crossed);
        happened("a time was set exactly", PlainModel.roundedPast);
        Check.end("ModelTest");
    }

    private static void happened(String what, int times) {
        if (Check.wrong() == 0) {
            Check.due("the runs are varied enough: " + what + " (" + times + " times)", times >= 20, true);
        }
    }

    private void play() {
        begin();
        for (int k = 0; k < ACTIONS && Check.wrong() == 0; k++) {
            act();
            look();
        }
        if (Check.wrong() != 0) {
            System.out.println("the calls were:" + told);
        }
    }

    private void begin() {
        if (draw.nextInt(8) != 0) {
            n = 1 + draw.nextInt(3);
            same("system(" + n + ")", () -> bench.system(n), () -> model.system(n));
        }
        int terms = draw.nextInt(7);
        for (int k = 0; k < terms; k++) {
            term(false);
        }
        for (int i = 0; i < n; i++) {
            value(i, coordinate());
        }
    }

    private void act() {
        int kind = draw.nextInt(40);
        if (kind < 14) {
            step(draw.nextInt(3) == 0 ? 3 : draw.nextInt(6));
        } else if (kind < 25) {
            go(draw.nextInt(6));
        } else if (kind < 28) {
            int e = draw.nextInt(n);
            double level = draw.nextBoolean() ? 0.0 : bounded(model.at(e) + draw.nextGaussian());
            same("watch(" + e + ", " + level + ")", () -> bench.watch(e, level), () -> model.watch(e, level));
        } else if (kind < 32) {
            size(length(), Math.pow(10.0, -8.0 * draw.nextDouble()));
        } else if (kind < 34) {
            value(draw.nextInt(n), coordinate());
        } else if (kind < 35) {
            term(false);
        } else if (kind < 39) {
            wrongCall();
        } else if (draw.nextInt(3) == 0) {
            int count = 1 + draw.nextInt(3);
            n = count;
            same("system(" + count + ")", () -> bench.system(count), () -> model.system(count));
        }
    }

    private void wrongCall() {
        int odd = draw.nextInt(8) - 2;
        double strange = strange();
        switch (draw.nextInt(8)) {
            case 0 -> term(true);
            case 1 -> value(odd, strange);
            case 2 -> size(strange, draw.nextBoolean() ? 0.5 : strange());
            case 3 -> same("step(" + odd + ")", () -> bench.step(odd), () -> model.step(odd));
            case 4 -> same("go(" + odd + ", " + strange + ")",
                () -> due("go", bench.go(odd, strange)), () -> due("go", model.go(odd, strange)));
            case 5 -> same("watch(" + odd + ", " + strange + ")",
                () -> bench.watch(odd, strange), () -> model.watch(odd, strange));
            case 6 -> {
                if (odd < 1 || odd > 3) {
                    same("system(" + odd + ")", () -> bench.system(odd), () -> model.system(odd));
                }
            }
            default -> compare("between(" + odd + ", " + strange + ")",
                () -> due("between", bench.between(odd, strange)),
                () -> due("between", model.between(odd, strange)));
        }
    }

    private double strange() {
        double[] kinds = {Double.NaN, Double.POSITIVE_INFINITY, Double.NEGATIVE_INFINITY, 0.0, -0.0, 1.0, 4.0,
            Math.nextUp(4.0), 64.0, Math.nextUp(64.0), 1000.0, -1000.0, Math.nextUp(1000.0), 0.5, -1.0};
        return kinds[draw.nextInt(kinds.length)];
    }

    private double coordinate() {
        int kind = draw.nextInt(10);
        double wide = kind == 0 ? 1000.0 : kind < 4 ? 50.0 : 3.0;
        return kind == 9 ? draw.nextInt(5) - 2 : wide * (2.0 * draw.nextDouble() - 1.0);
    }

    private double constant() {
        int kind = draw.nextInt(8);
        if (kind == 0) {
            return 64.0 * (2.0 * draw.nextDouble() - 1.0);
        }
        if (kind < 4) {
            return Math.scalb(draw.nextBoolean() ? 1.0 : -1.0, draw.nextInt(7) - 3);
        }
        return draw.nextGaussian();
    }

    private double length() {
        int kind = draw.nextInt(8);
        if (kind == 0) {
            return 4.0 * (1.0 - draw.nextDouble());
        }
        if (kind == 1) {
            return Math.pow(10.0, -6.0 * draw.nextDouble());
        }
        return kind < 5 ? Math.scalb(1.0, -draw.nextInt(6)) : (1.0 + draw.nextInt(9)) / 10.0;
    }

    private static double bounded(double x) {
        return Math.max(-1000.0, Math.min(1000.0, x));
    }

    private void term(boolean odd) {
        int[] factors = {0, n - 1, draw.nextInt(n), 3, 4, 4};
        int i = odd ? draw.nextInt(6) - 1 : draw.nextInt(n);
        int a = odd ? draw.nextInt(8) - 1 : factors[draw.nextInt(6)];
        int b = odd ? draw.nextInt(8) - 1 : factors[draw.nextInt(6)];
        double c = odd ? strange() : constant();
        same("term(" + i + ", " + c + ", " + a + ", " + b + ")",
            () -> due("term", bench.term(i, c, a, b)), () -> due("term", model.term(i, c, a, b)));
    }

    private void value(int i, double v) {
        same("value(" + i + ", " + v + ")", () -> bench.value(i, v), () -> model.value(i, v));
    }

    private void size(double h, double tolerance) {
        same("size(" + h + ", " + tolerance + ")", () -> bench.size(h, tolerance),
            () -> model.size(h, tolerance));
    }

    private void step(int method) {
        same("step(" + method + ")", () -> bench.step(method), () -> model.step(method));
    }

    private void go(int method) {
        int kind = draw.nextInt(7);
        double time = model.time();
        if (kind == 0) {
            time += 100.0 * draw.nextDouble();
        } else if (kind < 3) {
            time += model.nextSize() * draw.nextInt(12);
        } else if (kind < 6) {
            time += 5.0 * draw.nextDouble();
        } else {
            // one long step behind short ones: the time less t is not exact there
            size(4.0, 4.0);
            time = time * (2.0 + draw.nextDouble());
        }
        go(method, time);
    }

    private void go(int method, double time) {
        same("go(" + method + ", " + time + ")",
            () -> due("go", bench.go(method, time)), () -> due("go", model.go(method, time)));
    }

    private void look() {
        for (int i = 0; i < n; i++) {
            int one = i;
            compare("at", () -> due("at", bench.at(one)), () -> due("at", model.at(one)));
            compare("derivative", () -> due("derivative", bench.derivative(one)),
                () -> due("derivative", model.derivative(one)));
            double m = draw.nextInt(4) == 0 ? draw.nextInt(2) : draw.nextDouble();
            compare("between", () -> due("between", bench.between(one, m)),
                () -> due("between", model.between(one, m)));
        }
        Check.due("time()", bench.time(), model.time());
        Check.due("nextSize()", bench.nextSize(), model.nextSize());
        Check.due("steps(false)", bench.steps(false), model.steps(false));
        Check.due("steps(true)", bench.steps(true), model.steps(true));
        Check.due("events()", bench.events(), model.events());
        int k = draw.nextInt(10) - 1;
        compare("event(" + k + ")", () -> due("event", bench.event(k)), () -> due("event", model.event(k)));
        compare("event(0)", () -> due("event", bench.event(0)), () -> due("event", model.event(0)));
    }

    private String answer = "";

    private void due(String call, double got) {
        answer = call + " " + (got + 0.0);
    }

    private void same(String call, Check.Call real, Check.Call plain) {
        told.append("\n  ").append(call);
        compare(call, real, plain);
    }

    private void compare(String call, Check.Call real, Check.Call plain) {
        answer = "";
        String got = Check.thrownBy(real) + " " + answer;
        answer = "";
        String want = Check.thrownBy(plain) + " " + answer;
        Check.due(call, got, want);
    }
}
