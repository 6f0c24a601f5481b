import java.util.Random;

/** Long runs of mixed calls, each answer against the Model's; the seeds are written, so it repeats. */
public final class ModelTest {
    private static final int RUNS = 3000;
    private static final int CALLS = 512;

    private final Due due;
    private final Random random;
    private final LayerMoisture real;
    private final Model model;
    private final String run;
    private String waiting = "";

    private ModelTest(Due due, int seed) {
        this.due = due;
        random = new Random(seed);
        int layers = random.nextInt(6) == 0 ? random.nextInt(24) - 4 : 1 + random.nextInt(5);
        int boards = random.nextInt(6) == 0 ? random.nextInt(14) - 3 : 1 + random.nextInt(3);
        real = new LayerMoisture(layers, boards);
        model = new Model(layers, boards);
        run = "run " + seed + " (" + layers + ", " + boards + "): ";
    }

    public static void main(String[] args) {
        Due due = new Due("ModelTest");
        for (int seed = 1; seed <= RUNS; seed++) {
            ModelTest test = new ModelTest(due, seed);
            for (int call = 0; call < CALLS; call++) {
                test.callOnce();
            }
        }
        due.end();
    }

    private void compare(String call, Due.Call realCall, Due.Call modelCall) {
        due.is(run + call, outcome(realCall), outcome(modelCall));
    }

    private static Object outcome(Due.Call call) {
        Object[] answer = new Object[1];
        Class<?> thrown = Due.thrownBy(() -> answer[0] = call.answer());
        if (thrown != null) {
            return thrown;
        }
        // 0.0 is added so that -0.0 and 0.0 are alike.
        return answer[0] instanceof Double ? (Object) ((Double) answer[0] + 0.0) : answer[0];
    }

    private void callOnce() {
        if (!waiting.isEmpty()) {
            unit(waiting.charAt(0));
            waiting = waiting.substring(1);
            return;
        }
        int choice = random.nextInt(100);
        if (choice < 12) {
            board();
        } else if (choice < 20) {
            rate();
        } else if (choice < 24) {
            air();
        } else if (choice < 26) {
            vent();
        } else if (choice < 34) {
            soak();
        } else if (choice < 40) {
            limit();
        } else if (choice < 43) {
            planSchedule();
        } else if (choice < 62) {
            int hours = random.nextInt(8) == 0 ? random.nextInt(105) - 2 : random.nextInt(6);
            compare("run " + hours, () -> real.run(hours), () -> model.run(hours));
        } else {
            read(choice);
        }
    }

    private int indexNear(int size) {
        return random.nextInt(25) == 0 ? random.nextInt(size + 4) - 2 : random.nextInt(size);
    }

    private double numberNear(double least, double most) {
        switch (random.nextInt(20)) {
            case 0:
                return least;
            case 1:
                return most;
            case 2:
                return random.nextInt(6) == 0 ? least - 0.125 : least;
            case 3:
                return random.nextInt(6) == 0 ? most + 0.125 : most;
            case 4:
                return random.nextInt(6) == 0 ? Double.NaN : least;
            default:
                return least + (most - least) * random.nextDouble();
        }
    }

    private void board() {
        int k = indexNear(model.boards);
        double thick = random.nextBoolean() ? numberNear(1, 400) : numberNear(1, 60);
        double wet = random.nextBoolean() ? numberNear(0, 3) : numberNear(0, 0.5);
        int kind = indexNear(4);
        compare("board " + k + " " + thick + " " + wet + " " + kind, () -> {
            real.board(k, thick, wet, kind);
            return null;
        }, () -> {
            model.board(k, thick, wet, kind);
            return null;
        });
    }

    private void rate() {
        int kind = indexNear(4);
        double most = random.nextInt(3) == 0 ? 8 : 0.5;
        double a = numberNear(0, most);
        double b = numberNear(0, most);
        compare("rate " + kind + " " + a + " " + b, () -> {
            real.rate(kind, a, b);
            return null;
        }, () -> {
            model.rate(kind, a, b);
            return null;
        });
    }

    private void air() {
        double kelvin = numberNear(250, 400);
        double damp = random.nextInt(4) == 0 ? 1 : numberNear(0, 1);
        double speed = random.nextBoolean() ? numberNear(0, 16) : numberNear(0, 2);
        compare("air " + kelvin + " " + damp + " " + speed, () -> {
            real.air(kelvin, damp, speed);
            return null;
        }, () -> {
            model.air(kelvin, damp, speed);
            return null;
        });
    }

    private void vent() {
        double share = numberNear(0, 1);
        compare("vent " + share, () -> {
            real.vent(share);
            return null;
        }, () -> {
            model.vent(share);
            return null;
        });
    }

    private void soak() {
        int k = indexNear(model.boards);
        int layer = indexNear(model.layers);
        double wet = random.nextBoolean() ? numberNear(0, 3) : numberNear(0, 0.5);
        compare("soak " + k + " " + layer + " " + wet, () -> {
            real.soak(k, layer, wet);
            return null;
        }, () -> {
            model.soak(k, layer, wet);
            return null;
        });
    }

    private void limit() {
        int k = indexNear(model.boards);
        double load = random.nextInt(3) == 0 ? numberNear(0, 1) : numberNear(0, 0.06);
        compare("limit " + k + " " + load, () -> {
            real.limit(k, load);
            return null;
        }, () -> {
            model.limit(k, load);
            return null;
        });
    }

    private void unit(int u) {
        compare("unit " + u, () -> real.unit(u), () -> model.unit(u));
    }

    private void planSchedule() {
        int steps = random.nextInt(8) == 0 ? 11 + random.nextInt(3) : 1 + random.nextInt(4);
        StringBuilder text = new StringBuilder();
        for (int s = 0; s < steps; s++) {
            int hours = Math.min(999, model.hours + random.nextInt(60));
            text.append(s == 0 ? "" : ";").append(random.nextInt(3) == 0 ? "w" + random.nextInt(200) : "h" + hours)
                    .append(':').append(250 + random.nextInt(151)).append(',').append(random.nextInt(101));
        }
        if (random.nextInt(3) == 0) {
            int place = random.nextInt(text.length());
            text.setCharAt(place, "wh:,;0123456789 x~\u007f\u001f".charAt(random.nextInt(20)));
        }
        if (random.nextInt(5) == 0) {
            text.setLength(random.nextInt(text.length()));
        }
        waiting = text.toString();
    }

    private void read(int choice) {
        int k = indexNear(model.boards);
        int layer = indexNear(model.layers);
        switch (choice % 10) {
            case 0:
                compare("check " + k, () -> real.check(k), () -> model.check(k));
                break;
            case 1:
                compare("wet " + k + " " + layer, () -> real.wet(k, layer), () -> model.wet(k, layer));
                break;
            case 2:
                compare("mean " + k, () -> real.mean(k), () -> model.mean(k));
                break;
            case 3:
                compare("stress " + k + " " + layer, () -> real.stress(k, layer), () -> model.stress(k, layer));
                break;
            case 4:
                compare("balance", () -> real.balance(), () -> model.balance());
                break;
            case 5:
                compare("grams", () -> real.grams(), () -> model.gone);
                break;
            case 6:
                compare("schedule", () -> real.schedule(), () -> model.schedule());
                break;
            case 7:
                int what = indexNear(5);
                compare("told " + what, () -> real.told(what), () -> model.told(what));
                break;
            default:
                int which = indexNear(3);
                compare("count " + which, () -> real.count(which), () -> model.count(which));
                break;
        }
    }
}
