import java.util.ArrayList;
import java.util.List;

/**
 * A second reckoning of the document, for ModelTest: written without a look at how the class holds
 * its state, with new rows wherever that is plainer.
 */
final class Model {
    static final class Step {
        boolean byHours;
        int[] numbers = new int[3];
    }

    final int layers;
    final int boards;
    final double[][] w;
    final double[] d;
    final int[] kind;
    final double[] limit;
    final int[] kept;
    final double[] a = new double[4];
    final double[] b = new double[4];
    double kelvin = 293;
    double damp = 0.5;
    double speed = 1;
    double vent = 0;
    double rest = 0;
    long gone = 0;
    int hours = 0;
    int done = 0;
    String text = "";
    List<Step> steps = List.of();

    Model(int layers, int boards) {
        this.layers = layers < 1 ? 1 : layers > 16 ? 16 : layers;
        this.boards = boards < 1 ? 1 : boards > 8 ? 8 : boards;
        w = new double[this.boards][];
        d = new double[this.boards];
        kind = new int[this.boards];
        limit = new double[this.boards];
        kept = new int[this.boards];
    }

    private static void demand(boolean right, RuntimeException otherwise) {
        if (!right) {
            throw otherwise;
        }
    }

    private static void index(int i, int end) {
        demand(0 <= i && i < end, new ArrayIndexOutOfBoundsException());
    }

    private static void between(double x, double least, double most) {
        demand(least <= x && x <= most, new IllegalArgumentException());
    }

    private void there(int k) {
        demand(w[k] != null, new IllegalStateException());
    }

    void board(int k, double thick, double wet, int itsKind) {
        index(k, boards);
        index(itsKind, 4);
        between(thick, 1, 400);
        between(wet, 0, 3);
        w[k] = new double[layers];
        java.util.Arrays.fill(w[k], wet);
        d[k] = thick / layers;
        kind[k] = itsKind;
        limit[k] = Double.POSITIVE_INFINITY;
        kept[k] = -1;
    }

    void rate(int k, double newA, double newB) {
        index(k, 4);
        between(newA, 0, 8);
        between(newB, 0, 8);
        a[k] = newA;
        b[k] = newB;
    }

    void air(double newKelvin, double newDamp, double newSpeed) {
        between(newKelvin, 250, 400);
        between(newDamp, 0, 1);
        between(newSpeed, 0, 16);
        kelvin = newKelvin;
        damp = newDamp;
        speed = newSpeed;
    }

    void vent(double share) {
        between(share, 0, 1);
        vent = share;
    }

    void soak(int k, int layer, double wet) {
        index(k, boards);
        index(layer, layers);
        between(wet, 0, 3);
        there(k);
        w[k][layer] = wet;
    }

    void limit(int k, double load) {
        index(k, boards);
        between(load, 0, Double.POSITIVE_INFINITY);
        there(k);
        limit[k] = load;
        kept[k] = -1;
    }

    int check(int k) {
        index(k, boards);
        there(k);
        return kept[k];
    }

    double wet(int k, int layer) {
        index(k, boards);
        index(layer, layers);
        there(k);
        return w[k][layer];
    }

    double mean(int k) {
        index(k, boards);
        there(k);
        return sum(w[k]) / layers;
    }

    double stress(int k, int layer) {
        index(k, boards);
        index(layer, layers);
        there(k);
        return stresses(k)[layer];
    }

    double told(int what) {
        index(what, 5);
        return new double[] {kelvin, damp, speed, vent, rest}[what];
    }

    int count(int what) {
        index(what, 3);
        int there = 0;
        for (double[] row : w) {
            there += row == null ? 0 : 1;
        }
        return new int[] {hours, done, there}[what];
    }

    double balance() {
        return 0.375 * damp * (1 - (kelvin - 273) / 256);
    }

    boolean unit(int u) {
        boolean fits = text.length() < 200 && u >= 32 && u <= 126;
        text += fits ? String.valueOf((char) u) : "";
        return fits;
    }

    /** Goes over the characters with a state: 0 letter, 1 3 5 a number's digits, what is open. */
    int schedule() {
        String read = text;
        text = "";
        steps = List.of();
        done = 0;
        List<Step> found = new ArrayList<>();
        Step step = new Step();
        int number = -1;
        int begin = 0;
        String digits = "";
        int[] least = {0, 250, 0};
        int[] most = {999, 400, 100};
        for (int i = 0; i <= read.length(); i++) {
            int c = i < read.length() ? read.charAt(i) : -1;
            if (number < 0) {
                if (c != 'w' && c != 'h') {
                    return -1 - i;
                }
                step = new Step();
                step.byHours = c == 'h';
                number = 0;
                digits = "";
                continue;
            }
            if (c >= '0' && c <= '9' && digits.length() < 3) {
                begin = digits.isEmpty() ? i : begin;
                digits += (char) c;
                continue;
            }
            if (digits.isEmpty()) {
                return -1 - i;
            }
            step.numbers[number] = Integer.parseInt(digits);
            if (step.numbers[number] < least[number] || step.numbers[number] > most[number]) {
                return -1 - begin;
            }
            boolean lastNumber = number == 2;
            if (lastNumber && c == -1) {
                found.add(step);
                steps = found;
                return found.size();
            }
            int mark = ":,;".charAt(number);
            if (c != mark || lastNumber && found.size() == 11) {
                return -1 - i;
            }
            if (lastNumber) {
                found.add(step);
            }
            number = lastNumber ? -1 : number + 1;
            digits = "";
        }
        throw new AssertionError("the end of the text was passed over");
    }

    int run(int more) {
        demand(more >= 0 && more <= 100, new IllegalArgumentException());
        for (int h = 0; h < more; h++) {
            for (int k = 0; k < boards; k++) {
                if (w[k] != null && refused(k)) {
                    return -1 - hours;
                }
            }
            hour();
        }
        return hours;
    }

    private boolean refused(int k) {
        double greatest = 0;
        for (double wet : w[k]) {
            greatest = Math.max(greatest, wet);
        }
        return speed / (8 * d[k]) > 0.25
                || (a[kind[k]] + b[kind[k]] * greatest) / (d[k] * d[k]) > 0.25;
    }

    private void hour() {
        if (done < steps.size() && timeHasCome(steps.get(done))) {
            kelvin = steps.get(done).numbers[1];
            damp = steps.get(done).numbers[2] / 100.0;
            done++;
        }
        for (int k = 0; k < boards; k++) {
            if (w[k] != null) {
                dry(k);
            }
        }
        hours++;
        for (int k = 0; k < boards; k++) {
            if (w[k] == null || kept[k] != -1) {
                continue;
            }
            double load = 0;
            for (double s : stresses(k)) {
                load = Math.max(load, Math.abs(s));
            }
            kept[k] = load > limit[k] ? hours : -1;
        }
    }

    private boolean timeHasCome(Step step) {
        if (step.byHours) {
            return hours >= step.numbers[0];
        }
        boolean any = false;
        boolean all = true;
        for (double[] row : w) {
            any |= row != null;
            all &= row == null || sum(row) / layers <= step.numbers[0] / 100.0;
        }
        return any && all;
    }

    private void dry(int k) {
        double[] old = w[k].clone();
        double depth = d[k];
        int last = layers - 1;
        double[] f = new double[layers];
        for (int i = 0; i < last; i++) {
            f[i] = (a[kind[k]] + b[kind[k]] * ((old[i] + old[i + 1]) / 2)) * (old[i] - old[i + 1])
                    / (depth * depth);
        }
        double g = speed * (old[0] - balance()) / (8 * depth);
        double h = speed * (old[last] - balance()) / (8 * depth);
        if (layers == 1) {
            w[k][0] = old[0] - g - h;
        } else {
            w[k][0] = old[0] - g - f[0];
            for (int i = 1; i < last; i++) {
                w[k][i] = old[i] + f[i - 1] - f[i];
            }
            w[k][last] = old[last] + f[last - 1] - h;
        }
        double water = (g + h) * depth * 64;
        rest += water;
        long whole = (long) rest;
        rest -= whole;
        gone += whole;
        damp = Math.min(1, Math.max(0, damp + water / 65536 * (1 - vent)));
    }

    private static double sum(double[] row) {
        double sum = row[0];
        for (int i = 1; i < row.length; i++) {
            sum += row[i];
        }
        return sum;
    }

    private double[] stresses(int k) {
        double[] s = new double[layers];
        for (int i = 0; i < layers; i++) {
            s[i] = 0.25 * (0.3125 - Math.min(w[k][i], 0.3125));
        }
        double m = sum(s) / layers;
        for (int i = 0; i < layers; i++) {
            s[i] = s[i] - m;
        }
        return s;
    }
}
