/** Promises 12 to 18: wet, mean, stress, balance, told, grams, count. */
public final class ReadingTest {
    public static void main(String[] args) {
        Due due = new Due("ReadingTest");
        wetAndMean(due);
        stress(due);
        wrongBoards(due);
        balance(due);
        toldAndGrams(due);
        count(due);
        due.end();
    }

    private static LayerMoisture soaked(double... wets) {
        LayerMoisture x = new LayerMoisture(wets.length, 2);
        x.board(1, 400, 0, 0);
        for (int i = 0; i < wets.length; i++) {
            x.soak(1, i, wets[i]);
        }
        return x;
    }

    private static void wetAndMean(Due due) {
        LayerMoisture x = soaked(0.5, 1, 3);
        due.is("12: layer 0", x.wet(1, 0), 0.5);
        due.is("12: layer 1", x.wet(1, 1), 1);
        due.is("12: layer 2", x.wet(1, 2), 3);
        due.is("13: mean", x.mean(1), 1.5);
        due.is("13: mean of one", soaked(0.7).mean(1), 0.7);
        // The sum from the last one on would be another double.
        due.is("13: from the first one on", soaked(0.1, 0.2, 0.3).mean(1), (0.1 + 0.2 + 0.3) / 3);
        due.is("13: and from the other", soaked(0.3, 0.2, 0.1).mean(1), (0.3 + 0.2 + 0.1) / 3);
    }

    private static void stress(Due due) {
        LayerMoisture x = soaked(0, 0.25, 0.3125, 3);
        // S = 0.078125, 0.015625, 0, 0.
        double mean = 0.0234375;
        due.is("14: layer 0", x.stress(1, 0), 0.078125 - mean);
        due.is("14: layer 1", x.stress(1, 1), 0.015625 - mean);
        due.is("14: layer 2", x.stress(1, 2), -mean);
        due.is("14: layer 3", x.stress(1, 3), -mean);
        due.is("14: above 0.3125 nothing shrinks", soaked(0.5, 0.3125).stress(1, 0), 0);
        due.is("14: just below it does", soaked(0.25, 0.3125).stress(1, 0), 0.0078125);
        due.is("14: one layer", soaked(0.1).stress(1, 0), 0);
        LayerMoisture odd = soaked(0.1, 0.2, 0.3);
        double a = 0.25 * (0.3125 - 0.1);
        double b = 0.25 * (0.3125 - 0.2);
        double c = 0.25 * (0.3125 - 0.3);
        due.is("14: from the first one on", odd.stress(1, 2), c - (a + b + c) / 3);
    }

    private static void wrongBoards(Due due) {
        LayerMoisture x = soaked(0.5, 1, 3);
        for (int board : new int[] {-1, 2, Integer.MIN_VALUE, Integer.MAX_VALUE}) {
            due.isOutOfBounds("12: board " + board, () -> x.wet(board, 0));
            due.isOutOfBounds("13: board " + board, () -> x.mean(board));
            due.isOutOfBounds("14: board " + board, () -> x.stress(board, 0));
        }
        for (int layer : new int[] {-1, 3, Integer.MIN_VALUE, Integer.MAX_VALUE}) {
            due.isOutOfBounds("12: layer " + layer, () -> x.wet(1, layer));
            due.isOutOfBounds("12: layer " + layer + " before state", () -> x.wet(0, layer));
            due.isOutOfBounds("14: layer " + layer, () -> x.stress(1, layer));
            due.isOutOfBounds("14: layer " + layer + " before state", () -> x.stress(0, layer));
        }
        due.isWrongState("12: not there", () -> x.wet(0, 0));
        due.isWrongState("13: not there", () -> x.mean(0));
        due.isWrongState("14: not there", () -> x.stress(0, 0));
    }

    private static void balance(Due due) {
        LayerMoisture x = new LayerMoisture(1, 1);
        due.is("15: at first", x.balance(), 0.1728515625);
        double[][] airs = {{273, 1, 0.375}, {400, 1, 0.18896484375}, {250, 1, 0.40869140625}, {300, 0, 0}};
        for (double[] a : airs) {
            x.air(a[0], a[1], 3);
            due.is("15: balance of " + a[0] + ", " + a[1], x.balance(), a[2]);
        }
        x.air(301.3, 0.7, 1);
        due.is("15: in the order told", x.balance(), 0.375 * 0.7 * (1 - (301.3 - 273) / 256));
    }

    private static void toldAndGrams(Due due) {
        LayerMoisture x = new LayerMoisture(1, 1);
        x.board(0, 4, 3, 0);
        x.air(273, 0, 0.3125);
        x.vent(0.25);
        x.run(1);
        // Water: 0.3125 * 3 / 32 * 2 * 256 = 15.
        due.is("17: grams", x.grams(), 15L);
        x.soak(0, 0, 0.5);
        x.air(273, 0, 0.3125);
        x.run(1);
        due.is("16: KELVIN", x.told(0), 273);
        due.is("16: DAMP", x.told(1), 2.5 / 65536 * 0.75);
        due.is("16: SPEED", x.told(2), 0.3125);
        due.is("16: VENT", x.told(3), 0.25);
        due.is("16: REST", x.told(4), 0.5);
        due.is("17: grams", x.grams(), 17L);
        for (int what : new int[] {-1, 5, Integer.MIN_VALUE, Integer.MAX_VALUE}) {
            due.isOutOfBounds("16: what " + what, () -> x.told(what));
        }
    }

    private static void count(Due due) {
        LayerMoisture x = new LayerMoisture(2, 4);
        x.board(3, 300, 1, 0);
        x.board(1, 300, 1, 0);
        x.board(3, 200, 1, 0);
        Boards.schedule(x, "h2:300,5;h50:301,6");
        x.run(7);
        due.is("18: HOURS", x.count(0), 7);
        due.is("18: steps done", x.count(1), 1);
        due.is("18: boards there", x.count(2), 2);
        for (int what : new int[] {-1, 3, Integer.MIN_VALUE, Integer.MAX_VALUE}) {
            due.isOutOfBounds("18: what " + what, () -> x.count(what));
        }
    }
}
