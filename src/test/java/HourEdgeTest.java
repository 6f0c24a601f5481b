/** The edges of promise 9, of AN HOUR and of REFUSED, a method for each sentence that names one. */
public final class HourEdgeTest {
    private static final double LEAST = 0x1p-1060;

    public static void main(String[] args) {
        Due due = new Due("HourEdgeTest");
        manyCalls(due);
        inTheOrderTold(due);
        hoursBounds(due);
        untilRefused(due);
        hoursThen(due);
        noBoardThere(due);
        scheduleFirst(due);
        layerButTheLast(due);
        oneLayer(due);
        wetnessesThatWere(due);
        wholeGrams(due);
        belowZero(due);
        restOfEachBoard(due);
        dampAboveOne(due);
        dampBelowZero(due);
        ventShares(due);
        boardsInOrder(due);
        refusedBySpeed(due);
        refusedByRate(due);
        greatestWetness(due);
        refusedForABoard(due);
        refusedDoesNothing(due);
        due.end();
    }

    private static LayerMoisture still(int layers, int boards) {
        LayerMoisture x = new LayerMoisture(layers, boards);
        x.air(293, 0.5, 0);
        return x;
    }

    private static void manyCalls(Due due) {
        due.sentence("An object is used for at most 512 calls after it has been made");
        LayerMoisture x = new LayerMoisture(16, 8);
        for (int k = 0; k < 8; k++) {
            x.board(k, 400, 3, k % 4);
        }
        for (int call = 8; call < 511; call++) {
            due.is("call " + call, x.run(100), (call - 7) * 100);
        }
        due.is("the last call", x.count(0), 50300);
    }

    private static void inTheOrderTold(Due due) {
        due.sentence("reckoned in doubles, by the operations told here, from the left to the right,"
                + " * and / before + and -, in the order told");
        for (int n = 1; n <= 200; n++) {
            double[] wets = {n / 131.0, n / 177.0, n / 223.0};
            oneHour(due, n, n / 211.0, wets);
            // Beside zeros a flow is seen whole, and not only what of it a greater number takes up.
            oneHour(due, n, 0, new double[] {n / 131.0, 0, 0});
            // Among the least doubles a division by 8 or 65536 is rounded, too, and its order is seen.
            oneHour(due, n, n / 211.0 * LEAST, new double[] {wets[0] * LEAST, wets[1] * LEAST, wets[2] * LEAST});
            oneHour(due, n, 0, new double[] {wets[0] * LEAST, 0, 0});
        }
    }

    private static void oneHour(Due due, int n, double damp, double[] w) {
        double a = 0.1 + n / 700.0;
        double b = 0.2 + n / 900.0;
        double speed = 0.3 + n / 300.0;
        double kelvin = 260 + n / 1.7;
        double vent = n / 307.0;
        double thick = 9 + n / 7.0;
        LayerMoisture x = new LayerMoisture(3, 1);
        x.rate(0, a, b);
        x.air(kelvin, damp, speed);
        x.vent(vent);
        x.board(0, thick, w[0], 0);
        x.soak(0, 1, w[1]);
        x.soak(0, 2, w[2]);
        due.is("run, n = " + n, x.run(1), 1);
        double d = thick / 3;
        double balance = 0.375 * damp * (1 - (kelvin - 273) / 256);
        double f0 = (a + b * ((w[0] + w[1]) / 2)) * (w[0] - w[1]) / (d * d);
        double f1 = (a + b * ((w[1] + w[2]) / 2)) * (w[1] - w[2]) / (d * d);
        double g = speed * (w[0] - balance) / (8 * d);
        double h = speed * (w[2] - balance) / (8 * d);
        double water = (g + h) * d * 64;
        due.is("W(0), n = " + n, x.wet(0, 0), w[0] - g - f0);
        due.is("W(1), n = " + n, x.wet(0, 1), w[1] + f0 - f1);
        due.is("W(2), n = " + n, x.wet(0, 2), w[2] + f1 - h);
        due.is("REST, n = " + n, x.told(4), water - (long) water);
        due.is("DAMP, n = " + n, x.told(1), Math.min(1, damp + water / 65536 * (1 - vent)));
    }

    private static void hoursBounds(Due due) {
        due.sentence("9: IllegalArgumentException: hours are not 0 .. 100");
        LayerMoisture x = new LayerMoisture(1, 1);
        for (int wrong : new int[] {Integer.MIN_VALUE, -100, -1, 101, Integer.MAX_VALUE}) {
            due.isWrongArgument("run " + wrong, () -> x.run(wrong));
            due.is("no hour has passed", x.count(0), 0);
        }
        due.is("run 0", x.run(0), 0);
        due.is("run 1", x.run(1), 1);
        due.is("run 99", x.run(99), 100);
        due.is("run 100", x.run(100), 200);
        due.is("HOURS", x.count(0), 200);
    }

    private static void untilRefused(Due due) {
        due.sentence("9: So many HOURS, until one is REFUSED");
        // In each hour W goes half the way to 0.375: 0, 0.1875, 0.28125, ..
        LayerMoisture x = new LayerMoisture(1, 1);
        x.board(0, 4, 0, 0);
        x.air(273, 1, 8);
        x.vent(1);
        x.rate(0, 0, 8);
        due.is("D * D / 4 is 4, so 8 * W is never above it", x.run(100), 100);
        x.rate(0, 2.5, 8);
        x.board(0, 4, 0, 0);
        due.is("2.5 + 8 * W: 0, 0.1875 pass, 0.28125 does not", x.run(100), -1 - 102);
        due.is("W of the hours that passed", x.wet(0, 0), 0.28125);
        due.is("HOURS", x.count(0), 102);
        due.is("none passes now", x.run(1), -1 - 102);
        due.is("nor in a hundred", x.run(100), -1 - 102);
    }

    private static void hoursThen(Due due) {
        due.sentence("9: HOURS then, or -1 less these, if one was");
        LayerMoisture x = still(1, 1);
        x.board(0, 1, 1, 0);
        x.rate(0, 8, 0);
        due.is("refused at HOURS = 0", x.run(1), -1);
        due.is("of no hours none is refused", x.run(0), 0);
        x.rate(0, 0, 0);
        due.is("HOURS", x.run(7), 7);
        x.rate(0, 8, 0);
        due.is("refused at HOURS = 7", x.run(1), -8);
        due.is("of no hours none is refused then", x.run(0), 7);
    }

    private static void noBoardThere(Due due) {
        due.sentence("for each board that is there");
        LayerMoisture x = new LayerMoisture(2, 3);
        x.air(273, 1, 16);
        x.rate(0, 8, 8);
        due.is("no board, and so none that refuses", x.run(100), 100);
        due.is("no grams", x.grams(), 0L);
        due.is("no REST", x.told(4), 0);
        due.is("DAMP as before", x.told(1), 1);
        x.air(273, 1, 1);
        x.board(1, 256, 0, 1);
        x.run(1);
        // WATER is 1 * (0 - 0.375) / 8 * 2 * 64; the boards beside it give nothing.
        due.is("one board's grams", x.grams(), -6L);
        due.is("the boards beside it have not come", x.count(2), 1);
    }

    private static void scheduleFirst(Due due) {
        due.sentence("AN HOUR. First the SCHEDULE");
        LayerMoisture x = new LayerMoisture(1, 1);
        x.board(0, 4, 1, 0);
        x.air(400, 0, 2);
        Boards.schedule(x, "h0:273,100");
        x.run(1);
        due.is("W in the step's air", x.wet(0, 0), 1 - 0.0390625 - 0.0390625);
        due.is("DAMP of the step grows no more", x.told(1), 1);
    }

    private static void layerButTheLast(Due due) {
        due.sentence("F(i) for each layer but the last one; W(i) becomes W(i) + F(i - 1) - F(i)");
        for (int layers = 2; layers <= 16; layers++) {
            for (int wet = 0; wet < layers; wet++) {
                LayerMoisture x = still(layers, 1);
                x.rate(0, 1, 0);
                x.board(0, 4 * layers, 0, 0);
                x.soak(0, wet, 1);
                x.run(1);
                for (int layer = 0; layer < layers; layer++) {
                    int beside = (wet > 0 ? 1 : 0) + (wet < layers - 1 ? 1 : 0);
                    double due16ths = layer == wet ? 16 - beside : Math.abs(layer - wet) == 1 ? 1 : 0;
                    due.is("layer " + layer + " of " + layers + ", wet at " + wet, x.wet(0, layer),
                            due16ths / 16);
                }
            }
        }
    }

    private static void oneLayer(Due due) {
        due.sentence("of one layer W(0) - G - H");
        LayerMoisture x = new LayerMoisture(1, 1);
        x.board(0, 3, 0.7, 0);
        x.rate(0, 1, 1);
        x.air(273, 0, 0.3);
        x.run(1);
        double face = 0.3 * 0.7 / (8 * 3.0);
        due.is("both faces are of the one layer", x.wet(0, 0), 0.7 - face - face);
        due.is("REST", x.told(4), (face + face) * 3 * 64 - 3);
        due.is("grams", x.grams(), 3L);
    }

    private static void wetnessesThatWere(Due due) {
        due.sentence("(all from the wetnesses that were)");
        LayerMoisture x = new LayerMoisture(3, 1);
        x.board(0, 12, 1, 0);
        x.soak(0, 1, 0.5);
        x.soak(0, 2, 0.25);
        x.rate(0, 1, 2);
        x.air(273, 0, 4);
        x.run(1);
        due.is("layer 0", x.wet(0, 0), 1 - 0.125 - 0.078125);
        due.is("layer 1", x.wet(0, 1), 0.5 + 0.078125 - 0.02734375);
        due.is("layer 2", x.wet(0, 2), 0.25 + 0.02734375 - 0.03125);
    }

    /** A board whose WATER of the next hour is what is told, the air being dry: 16 * W at SPEED 1. */
    private static void giveWater(LayerMoisture x, double water) {
        x.board(0, 256, water / 16, 0);
        x.air(273, 0, 1);
        x.run(1);
    }

    private static void wholeGrams(Due due) {
        due.sentence("the whole grams of REST (cut off) go from it to GONE");
        double[][] rows = {{0, 0, 0}, {0.5, 0, 0.5}, {0.25, 0, 0.75}, {0.25, 1, 0}, {15.75, 16, 0.75},
                {0.125, 16, 0.875}, {0.125, 17, 0}, {48, 65, 0}};
        LayerMoisture x = new LayerMoisture(1, 1);
        for (double[] row : rows) {
            giveWater(x, row[0]);
            due.is("grams, of " + row[0] + " more", x.grams(), (long) row[1]);
            due.is("REST, of " + row[0] + " more", x.told(4), row[2]);
        }
    }

    /** As giveWater, but the board takes water: at DAMP 1 and W 0 it is 16 * 0.375 * SPEED. */
    private static void takeWater(LayerMoisture x, double water) {
        x.board(0, 256, 0, 0);
        x.air(273, 1, water / 6);
        x.run(1);
    }

    private static void belowZero(Due due) {
        due.sentence("(REST may be below 0 then, and grams, too)");
        LayerMoisture x = new LayerMoisture(1, 1);
        takeWater(x, 0.75);
        due.is("-0.75 is cut off to 0", x.grams(), 0L);
        due.is("REST", x.told(4), -0.75);
        takeWater(x, 0.75);
        due.is("-1.5 is cut off to -1", x.grams(), -1L);
        due.is("REST of that", x.told(4), -0.5);
        takeWater(x, 1.5);
        due.is("-2 goes whole", x.grams(), -3L);
        due.is("REST is 0", x.told(4), 0);
        takeWater(x, 0.75);
        giveWater(x, 1.5);
        due.is("-0.75 and 1.5 have no whole gram", x.grams(), -3L);
        due.is("REST is above 0 again", x.told(4), 0.75);
        giveWater(x, 4.25);
        due.is("grams come above 0 again", x.grams(), 2L);
        due.is("no REST", x.told(4), 0);
    }

    private static void restOfEachBoard(Due due) {
        due.sentence("for each board that is there, in order: .. REST grows by it; the whole grams go");
        // At BALANCE 0.375 the WATER of these boards is 1.25 and -0.5.
        double[] wets = {0.375 + 1.25 / 16, 0.375 - 0.5 / 16};
        double[][] rows = {{0, 1, 1, -0.25}, {1, 0, 0, 0.75}};
        for (double[] row : rows) {
            LayerMoisture x = new LayerMoisture(1, 2);
            x.air(273, 1, 1);
            x.vent(1);
            x.board((int) row[0], 256, wets[0], 0);
            x.board((int) row[1], 256, wets[1], 0);
            x.run(1);
            due.is("grams, 1.25 being board " + row[0], x.grams(), (long) row[2]);
            due.is("REST, 1.25 being board " + row[0], x.told(4), row[3]);
        }
    }

    private static void dampAboveOne(Due due) {
        due.sentence("DAMP becomes DAMP + WATER / 65536 * (1 - VENT), but not .. above 1");
        // At SPEED 16 and KELVIN 273 WATER is 256 * (W - 0.375 * DAMP).
        double[] damps = {1 - 768.0 / 65536, Math.nextDown(1.0), 1};
        for (double damp : damps) {
            LayerMoisture x = new LayerMoisture(1, 1);
            x.board(0, 256, 3, 0);
            x.air(273, damp, 16);
            x.run(1);
            double grown = damp + 256 * (3 - 0.375 * damp) / 65536;
            due.is("DAMP of " + damp, x.told(1), grown > 1 ? 1 : grown);
            x.board(0, 256, 0, 0);
            x.air(273, x.told(1), 0);
            x.run(1);
            due.is("it stays", x.told(1), grown > 1 ? 1 : grown);
        }
        LayerMoisture x = new LayerMoisture(1, 2);
        x.board(0, 256, 3, 0);
        x.board(1, 256, 0, 0);
        x.air(273, 1, 16);
        x.run(1);
        due.is("the next board meets 1, and takes of 1", x.told(1), 1 - 96.0 / 65536);
    }

    private static void dampBelowZero(Due due) {
        due.sentence("DAMP .. not below 0");
        for (double damp : new double[] {0, Double.MIN_VALUE, 0.0001, 0.01}) {
            LayerMoisture x = new LayerMoisture(1, 8);
            x.air(250, damp, 16);
            for (int hour = 0; hour < 40; hour++) {
                for (int k = 0; k < 8; k++) {
                    x.board(k, 400, 0, 0);
                }
                x.run(1);
                due.is("DAMP of " + damp + " falls, if at all", x.told(1) >= 0 && x.told(1) <= damp, true);
            }
        }
    }

    private static void ventShares(Due due) {
        due.sentence("a share VENT: WATER / 65536 * (1 - VENT)");
        double[][] rows = {{0, 16.0 / 65536}, {0.25, 12.0 / 65536}, {1, 0}};
        for (double[] row : rows) {
            LayerMoisture x = new LayerMoisture(1, 1);
            x.board(0, 256, 1, 0);
            x.air(273, 0, 1);
            x.vent(row[0]);
            x.run(1);
            due.is("DAMP of VENT " + row[0], x.told(1), row[1]);
            due.is("grams do not heed VENT " + row[0], x.grams(), 16L);
        }
    }

    private static void boardsInOrder(Due due) {
        due.sentence("for each board that is there, in order");
        LayerMoisture x = new LayerMoisture(1, 8);
        x.board(7, 256, 0, 0);
        x.board(0, 256, 3, 0);
        x.air(273, 0, 16);
        x.run(1);
        double damp = 768.0 / 65536;
        double flow = 16 * (0 - 0.375 * damp) / (8 * 256.0);
        due.is("the last board meets the first one's DAMP", x.wet(7, 0), 0 - flow - flow);
        due.is("the first one met the dry air", x.wet(0, 0), 3 - 0.0234375 - 0.0234375);
    }

    private static void refusedBySpeed(Due due) {
        due.sentence("REFUSED if SPEED / (8 * D) is above 0.25 for a board");
        LayerMoisture x = new LayerMoisture(1, 1);
        x.board(0, 8, 1, 0);
        x.air(273, 0.5, 16);
        due.is("16 / 64 is 0.25", x.run(1), 1);
        x.board(0, Math.nextDown(8.0), 1, 0);
        due.is("a little thinner", x.run(1), -2);
        x.board(0, 4, 1, 0);
        x.air(273, 0.5, 8);
        due.is("8 / 32 is 0.25", x.run(1), 2);
        x.air(273, 0.5, Math.nextUp(8.0));
        due.is("a little faster", x.run(1), -3);
        LayerMoisture y = new LayerMoisture(16, 1);
        y.board(0, 16, 1, 0);
        y.air(273, 0.5, 2);
        due.is("D is a layer's, 1 of 16", y.run(1), 1);
        y.air(273, 0.5, Math.nextUp(2.0));
        due.is("D is not the board's", y.run(1), -2);
    }

    private static void refusedByRate(Due due) {
        due.sentence("REFUSED .. or (A + B * w) / (D * D) is");
        for (int layers : new int[] {1, 2, 16}) {
            LayerMoisture x = still(layers, 1);
            x.board(0, 2 * layers, 0.5, 2);
            x.rate(2, 1, 0);
            due.is("A is 1 of 4, layers " + layers, x.run(1), 1);
            x.rate(2, Math.nextUp(1.0), 0);
            due.is("A is a little more, layers " + layers, x.run(1), -2);
            x.rate(2, 0, 2);
            due.is("B * w is 1 of 4, layers " + layers, x.run(1), 2);
            x.rate(2, 0, Math.nextUp(2.0));
            due.is("B is a little more, layers " + layers, x.run(1), -3);
            x.rate(2, 0.5, 1);
            due.is("both are 1 of 4, layers " + layers, x.run(1), 3);
            x.rate(2, 0.5 + Math.ulp(1.0), 1);
            due.is("both are a little more, layers " + layers, x.run(1), -4);
            x.rate(2, 0, 0);
            x.rate(1, 8, 8);
            due.is("another kind's do not count, layers " + layers, x.run(1), 4);
        }
    }

    private static void greatestWetness(Due due) {
        due.sentence("w being its greatest wetness (not below 0)");
        for (int wet = 0; wet < 16; wet++) {
            LayerMoisture x = still(16, 1);
            x.board(0, 32, 0, 0);
            x.rate(0, 0, 2);
            x.soak(0, wet, Math.nextUp(0.5));
            due.is("layer " + wet + " is too wet", x.run(1), -1);
            x.soak(0, wet, 0.5);
            due.is("layer " + wet + " is not", x.run(1), 1);
        }
        LayerMoisture dry = still(2, 1);
        dry.board(0, 4, 0, 0);
        dry.rate(0, 1, 8);
        due.is("all are 0", dry.run(100), 100);
    }

    private static void refusedForABoard(Due due) {
        due.sentence("for a board: any that is there, and no other");
        for (int thin = 0; thin < 8; thin++) {
            LayerMoisture x = new LayerMoisture(1, 8);
            x.air(273, 0.5, 16);
            for (int k = 0; k < 8; k++) {
                if (k != thin) {
                    x.board(k, 8, 1, 0);
                }
            }
            due.is("board " + thin + " is not there", x.run(1), 1);
            x.board(thin, 7, 1, 0);
            double[] before = wets(x);
            due.is("board " + thin + " is too thin", x.run(1), -2);
            for (int k = 0; k < 8; k++) {
                due.is("board " + k + " as before", x.wet(k, 0), before[k]);
            }
        }
    }

    private static double[] wets(LayerMoisture x) {
        double[] all = new double[8];
        for (int k = 0; k < all.length; k++) {
            all[k] = x.wet(k, 0);
        }
        return all;
    }

    private static void refusedDoesNothing(Due due) {
        due.sentence("An hour is REFUSED (it does nothing, also to the schedule)");
        LayerMoisture x = new LayerMoisture(2, 2);
        x.board(0, 200, 1, 0);
        x.soak(0, 1, 0);
        x.board(1, 15, 1, 0);
        x.air(300, 0.75, 16);
        x.limit(0, 0);
        Boards.schedule(x, "h0:310,20;w300:320,30");
        String before = Boards.stateOf(x, 2, 2);
        for (int hours : new int[] {1, 2, 100}) {
            due.is("run " + hours, x.run(hours), -1);
            due.is("all as before", Boards.stateOf(x, 2, 2), before);
        }
        x.air(300, 0.75, 15);
        due.is("the next hour is not refused", x.run(1), 1);
        due.is("its step was kept", x.told(0), 310);
        due.is("so was the limit", x.check(0), 1);
    }
}
