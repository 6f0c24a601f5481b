/** The edges of promises 10 to 18, of STRESS and of BALANCE, a method for each sentence that names one. */
public final class ReadingEdgeTest {
    private static final int NONE = LayerMoisture.NONE;

    public static void main(String[] args) {
        Due due = new Due("ReadingEdgeTest");
        limitBounds(due);
        limitFromNowOn(due);
        limitOfNoBoard(due);
        firstHourAbove(due);
        greatestSize(due);
        loadBehindTheHour(due);
        noneKept(due);
        checkOfNoBoard(due);
        wetOfNoLayer(due);
        meanOfNoBoard(due);
        meanOfLayers(due);
        stressOfNoLayer(due);
        lesserOf(due);
        sumOfShrinkages(due);
        balanceEdges(due);
        toldAnother(due);
        gramsBelowZero(due);
        countAnother(due);
        countOfEach(due);
        due.end();
    }

    /** An object whose boards keep their wetness; board 0 has these wetnesses. */
    private static LayerMoisture still(double... wets) {
        LayerMoisture x = new LayerMoisture(wets.length, 3);
        x.air(293, 0.5, 0);
        x.board(0, 40, 0, 0);
        for (int layer = 0; layer < wets.length; layer++) {
            x.soak(0, layer, wets[layer]);
        }
        return x;
    }

    private static Object limit(LayerMoisture x, int board, double load) {
        x.limit(board, load);
        return null;
    }

    private static void limitBounds(Due due) {
        due.sentence("10: IllegalArgumentException: it is not 0 or more (so NaN)");
        LayerMoisture x = still(3, 0);
        x.limit(0, 0.01);
        x.run(1);
        double[] wrong = {-Double.MIN_VALUE, -0.01, -1, Double.NaN, Double.NEGATIVE_INFINITY};
        for (double load : wrong) {
            due.isWrongArgument("limit " + load, () -> limit(x, 0, load));
            due.is("the hour stays kept", x.check(0), 1);
        }
        x.limit(0, Double.MIN_VALUE);
        x.run(1);
        due.is("the least above 0", x.check(0), 2);
        x.limit(0, 0);
        x.run(1);
        due.is("0", x.check(0), 3);
        x.limit(0, -0.0);
        x.run(1);
        due.is("-0 is 0", x.check(0), 4);
        for (double load : new double[] {Double.MAX_VALUE, Double.POSITIVE_INFINITY}) {
            x.limit(0, load);
            x.run(1);
            due.is("limit " + load, x.check(0), NONE);
        }
    }

    private static void limitFromNowOn(Due due) {
        due.sentence("10: The LIMIT of a board from now on (no hour is kept)");
        LayerMoisture x = still(3, 0);
        x.run(4);
        x.limit(0, 0);
        due.is("not of the hours that were", x.check(0), NONE);
        x.run(1);
        due.is("the next one", x.check(0), 5);
        x.limit(0, 0);
        due.is("of the same LIMIT again none is kept", x.check(0), NONE);
        x.run(1);
        due.is("the next one again", x.check(0), 6);
        x.limit(0, 1);
        x.run(1);
        due.is("of a greater one none is", x.check(0), NONE);
    }

    private static void limitOfNoBoard(Due due) {
        due.sentence("10: ArrayIndexOutOfBoundsException; .. IllegalStateException");
        LayerMoisture x = still(3, 0);
        for (int board : new int[] {Integer.MIN_VALUE, -1, 3, 8, Integer.MAX_VALUE}) {
            due.isOutOfBounds("board " + board + " of 3", () -> limit(x, board, 1));
        }
        due.isWrongState("board 2 is not there", () -> limit(x, 2, 0));
        x.board(2, 40, 3, 0);
        x.soak(2, 0, 0);
        x.run(1);
        due.is("nor is it kept until it is", x.check(2), NONE);
    }

    private static void firstHourAbove(Due due) {
        due.sentence("of a board's LIMIT the first hour (HOURS then) at which LOAD is above it is kept");
        // S is 0 and 0.078125, so LOAD is 0.0390625 in each hour.
        LayerMoisture x = still(3, 0);
        x.limit(0, 0.0390625);
        x.run(3);
        due.is("LOAD is the LIMIT", x.check(0), NONE);
        x.limit(0, Math.nextUp(0.0390625));
        x.run(3);
        due.is("LOAD is a little below", x.check(0), NONE);
        x.limit(0, Math.nextDown(0.0390625));
        x.run(1);
        due.is("LOAD is a little above", x.check(0), 7);
        x.run(9);
        due.is("the first hour stays", x.check(0), 7);
        x.soak(0, 0, 0);
        x.run(1);
        due.is("without LOAD, too", x.check(0), 7);
        LayerMoisture one = still(0.1);
        one.limit(0, 0);
        one.run(9);
        due.is("one layer has no LOAD", one.check(0), NONE);
    }

    private static void greatestSize(Due due) {
        due.sentence("each board's LOAD is the greatest size of its stresses");
        for (int layer = 0; layer < 4; layer++) {
            // The stresses are 0.05859375 and three of -0.01953125, or the same with other signs.
            for (double wet : new double[] {0, 3}) {
                LayerMoisture x = still(3 - wet, 3 - wet, 3 - wet, 3 - wet);
                x.soak(0, layer, wet);
                x.limit(0, 0.05859375);
                x.run(1);
                due.is("not above its size, layer " + layer + " of " + wet, x.check(0), NONE);
                x.limit(0, Math.nextDown(0.05859375));
                x.run(1);
                due.is("its size, layer " + layer + " of " + wet, x.check(0), 2);
            }
        }
    }

    private static void loadBehindTheHour(Due due) {
        due.sentence("Behind all boards HOURS grow by 1; each board's LOAD ..");
        LayerMoisture x = new LayerMoisture(3, 2);
        x.board(0, 24, 0.25, 0);
        x.board(1, 24, 0.25, 0);
        x.air(273, 0, 1);
        x.limit(0, 0);
        x.limit(1, 0);
        due.is("there is no stress before the hour", x.stress(0, 0), 0);
        x.run(1);
        due.is("LOAD is of the wetnesses that are now", x.check(0), 1);
        due.is("of each board", x.check(1), 1);
        LayerMoisture back = new LayerMoisture(2, 1);
        back.board(0, 4, 0.25, 0);
        back.soak(0, 1, 0);
        back.rate(0, 1, 0);
        back.air(273, 0, 0);
        back.limit(0, 0.02);
        back.run(1);
        due.is("a LOAD that is gone by the hour is not seen", back.check(0), NONE);
    }

    private static void noneKept(Due due) {
        due.sentence("11: The hour that was kept; NONE if none was");
        LayerMoisture x = still(3, 0);
        x.board(1, 40, 1, 0);
        due.is("no LIMIT", x.check(0), NONE);
        x.limit(0, 0);
        x.limit(1, 0);
        due.is("no hour", x.check(0), NONE);
        x.run(1);
        due.is("hour 1", x.check(0), 1);
        due.is("another board's hour", x.check(1), NONE);
        x.run(99);
        due.is("hour 1 still", x.check(0), 1);
        due.is("NONE", NONE, -1);
    }

    private static void checkOfNoBoard(Due due) {
        due.sentence("11: ArrayIndexOutOfBoundsException; IllegalStateException");
        LayerMoisture x = still(1, 1);
        for (int board : new int[] {Integer.MIN_VALUE, -1, 3, 8, Integer.MAX_VALUE}) {
            due.isOutOfBounds("board " + board + " of 3", () -> x.check(board));
        }
        due.isWrongState("board 1", () -> x.check(1));
        due.isWrongState("board 2", () -> x.check(2));
    }

    private static void wetOfNoLayer(Due due) {
        due.sentence("12: ArrayIndexOutOfBoundsException; IllegalStateException");
        LayerMoisture x = still(0.5, 1, 3);
        for (int board : new int[] {Integer.MIN_VALUE, -1, 3, 8, Integer.MAX_VALUE}) {
            due.isOutOfBounds("board " + board + " of 3", () -> x.wet(board, 0));
        }
        for (int layer : new int[] {Integer.MIN_VALUE, -1, 3, 16, Integer.MAX_VALUE}) {
            due.isOutOfBounds("layer " + layer + " of 3", () -> x.wet(0, layer));
        }
        due.isWrongState("board 2", () -> x.wet(2, 2));
        due.is("the first layer", x.wet(0, 0), 0.5);
        due.is("the last layer", x.wet(0, 2), 3);
    }

    private static void meanOfNoBoard(Due due) {
        due.sentence("13: ArrayIndexOutOfBoundsException; IllegalStateException");
        LayerMoisture x = still(0.5, 1, 3);
        for (int board : new int[] {Integer.MIN_VALUE, -1, 3, 8, Integer.MAX_VALUE}) {
            due.isOutOfBounds("board " + board + " of 3", () -> x.mean(board));
        }
        due.isWrongState("board 1", () -> x.mean(1));
        due.isWrongState("board 2", () -> x.mean(2));
    }

    private static void meanOfLayers(Due due) {
        due.sentence("13: The mean wetness of a board (the sum of W from the first one on / LAYERS)");
        due.is("one layer", still(0.7).mean(0), 0.7);
        due.is("all 0", still(0, 0, 0).mean(0), 0);
        due.is("from the first one on", still(0.1, 0.2, 0.3).mean(0), (0.1 + 0.2 + 0.3) / 3);
        due.is("from the other one on", still(0.3, 0.2, 0.1).mean(0), (0.3 + 0.2 + 0.1) / 3);
        double[] most = new double[16];
        double sum = 0;
        for (int layer = 0; layer < 16; layer++) {
            most[layer] = 3.0 / (layer + 1);
            sum += most[layer];
        }
        due.is("sixteen layers", still(most).mean(0), sum / 16);
    }

    private static void stressOfNoLayer(Due due) {
        due.sentence("14: ArrayIndexOutOfBoundsException; IllegalStateException");
        LayerMoisture x = still(0.5, 1, 0);
        for (int board : new int[] {Integer.MIN_VALUE, -1, 3, 8, Integer.MAX_VALUE}) {
            due.isOutOfBounds("board " + board + " of 3", () -> x.stress(board, 0));
        }
        for (int layer : new int[] {Integer.MIN_VALUE, -1, 3, 16, Integer.MAX_VALUE}) {
            due.isOutOfBounds("layer " + layer + " of 3", () -> x.stress(0, layer));
        }
        due.isWrongState("board 2", () -> x.stress(2, 2));
    }

    private static void lesserOf(Due due) {
        due.sentence("S(i) = 0.25 * (0.3125 - the lesser of W(i) and 0.3125)");
        double below = Math.nextDown(0.3125);
        double shrunk = 0.25 * (0.3125 - below);
        due.is("a little below 0.3125", still(below, 3).stress(0, 0), shrunk - shrunk / 2);
        due.is("and its neighbour", still(below, 3).stress(0, 1), 0 - shrunk / 2);
        for (double wet : new double[] {0.3125, Math.nextUp(0.3125), 1, 3}) {
            due.is(wet + " does not shrink", still(wet, 0.3125).stress(0, 0), 0);
        }
        due.is("0 shrinks most", still(0, 3).stress(0, 0), 0.078125 - 0.078125 / 2);
        due.is("one layer is not held by another", still(0).stress(0, 0), 0);
    }

    private static void sumOfShrinkages(Due due) {
        due.sentence("S(i) less M, M being the sum of all S from the first one on / LAYERS");
        for (int n = 1; n <= 20; n++) {
            double[] wets = new double[16];
            double sum = 0;
            for (int layer = 0; layer < 16; layer++) {
                wets[layer] = n / 41.0 / (layer + 1);
                sum += shrunk(wets[layer]);
            }
            LayerMoisture x = still(wets);
            for (int layer = 0; layer < 16; layer++) {
                due.is("layer " + layer + " of 16, n = " + n, x.stress(0, layer), shrunk(wets[layer]) - sum / 16);
            }
        }
    }

    private static double shrunk(double wet) {
        return 0.25 * (0.3125 - Math.min(wet, 0.3125));
    }

    private static void balanceEdges(Due due) {
        due.sentence("15: BALANCE is 0.375 * DAMP * (1 - (KELVIN - 273) / 256)");
        LayerMoisture x = new LayerMoisture(1, 1);
        due.is("at first", x.balance(), 0.375 * 0.5 * (1 - 20.0 / 256));
        double[] kelvins = {250, 273, Math.nextUp(273.0), 301.3, 400};
        for (double kelvin : kelvins) {
            for (double damp : new double[] {0, 0.7, 1}) {
                x.air(kelvin, damp, 0);
                due.is("of " + kelvin + ", " + damp, x.balance(), 0.375 * damp * (1 - (kelvin - 273) / 256));
            }
        }
        due.is("the least of DAMP 1", x.balance(), 0.375 * 129 / 256);
        for (int n = 1; n <= 2000; n++) {
            // Among the least doubles every operation is rounded, so that their order is seen.
            double kelvin = 250 + n / 13.7;
            double damp = n * 31 * Double.MIN_VALUE;
            LayerMoisture least = new LayerMoisture(1, 1);
            least.air(kelvin, damp, 0);
            due.is("of " + kelvin + ", " + damp, least.balance(), 0.375 * damp * (1 - (kelvin - 273) / 256));
        }
        x.air(273, 0, 0);
        Boards.schedule(x, "h0:337,100");
        due.is("before the step", x.balance(), 0);
        x.run(1);
        due.is("behind the step", x.balance(), 0.375 * 0.75);
    }

    private static void toldAnother(Due due) {
        due.sentence("16: ArrayIndexOutOfBoundsException: another what");
        LayerMoisture x = new LayerMoisture(1, 1);
        for (int what : new int[] {Integer.MIN_VALUE, -1, 5, 6, Integer.MAX_VALUE}) {
            due.isOutOfBounds("told " + what, () -> x.told(what));
        }
        x.air(273, 1, 0.125);
        x.vent(1);
        x.board(0, 256, 0, 0);
        x.run(1);
        double[] all = {273, 1, 0.125, 1, -0.75};
        for (int what = 0; what < all.length; what++) {
            due.is("told " + what, x.told(what), all[what]);
        }
    }

    private static void gramsBelowZero(Due due) {
        due.sentence("17: GONE, in grams");
        LayerMoisture x = new LayerMoisture(1, 1);
        due.is("none at first", x.grams(), 0L);
        x.air(273, 1, 1);
        x.board(0, 256, 0, 0);
        x.run(1);
        due.is("6 grams have come", x.grams(), -6L);
        x.air(273, 0, 1);
        x.board(0, 256, 3, 0);
        x.run(1);
        due.is("48 grams have gone", x.grams(), 42L);
    }

    private static void countAnother(Due due) {
        due.sentence("18: ArrayIndexOutOfBoundsException: another what");
        LayerMoisture x = new LayerMoisture(1, 1);
        for (int what : new int[] {Integer.MIN_VALUE, -1, 3, 4, Integer.MAX_VALUE}) {
            due.isOutOfBounds("count " + what, () -> x.count(what));
        }
        for (int what = 0; what < 3; what++) {
            due.is("count " + what + " at first", x.count(what), 0);
        }
    }

    private static void countOfEach(Due due) {
        due.sentence("18: HOURS, steps of the schedule that were done, boards that are there");
        LayerMoisture x = new LayerMoisture(1, 8);
        Boards.schedule(x, "h0:300,10;h2:310,20;h9:320,30");
        for (int k = 7; k >= 0; k--) {
            x.board(k, 256, 1, 0);
            x.board(k, 256, 1, 0);
            due.is("boards", x.count(2), 8 - k);
        }
        x.run(5);
        due.is("HOURS", x.count(0), 5);
        due.is("steps", x.count(1), 2);
    }
}
