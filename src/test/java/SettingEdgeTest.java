/** The edges of promises 1 to 6, a method for each sentence that names one. */
public final class SettingEdgeTest {
    private static final double NAN = Double.NaN;
    private static final double HUGE = Double.POSITIVE_INFINITY;
    private static final double TINY = Double.MIN_VALUE;

    public static void main(String[] args) {
        Due due = new Due("SettingEdgeTest");
        nearestLayers(due);
        nearestBoards(due);
        notThereAtFirst(due);
        ratesAtFirst(due);
        airAtFirst(due);
        noSuchBoardOrKind(due);
        thickness(due);
        depth(due);
        wetness(due);
        boardAnew(due);
        noLimitAnew(due);
        rateOfNoKind(due);
        rateBounds(due);
        airBounds(due);
        ventBounds(due);
        soakOfNoLayer(due);
        soakBounds(due);
        soakOfNoBoard(due);
        due.end();
    }

    private static void nearestLayers(Due due) {
        due.sentence("1: LAYERS the nearest of 1 .. 16");
        int[][] rows = {{Integer.MIN_VALUE, 1}, {-1, 1}, {0, 1}, {1, 1}, {2, 2}, {15, 15}, {16, 16},
                {17, 16}, {Integer.MAX_VALUE, 16}};
        for (int[] row : rows) {
            LayerMoisture x = new LayerMoisture(row[0], 1);
            x.board(0, 100, 0.5, 0);
            due.is("layers " + row[0] + ", the last one", x.wet(0, row[1] - 1), 0.5);
            due.isOutOfBounds("layers " + row[0] + ", one more", () -> x.wet(0, row[1]));
            // The thickness is parted by as many layers: a face loses SPEED * W / (8 * D).
            x.board(0, 16, 1, 0);
            x.air(273, 0, 0.0625);
            x.run(1);
            double face = 0.0625 * 1 / (8 * (16.0 / row[1]));
            due.is("layers " + row[0] + ", the first one's loss", x.wet(0, 0),
                    row[1] == 1 ? 1 - face - face : 1 - face);
        }
    }

    private static void nearestBoards(Due due) {
        due.sentence("1: boards (not there) the nearest of 1 .. 8");
        int[][] rows = {{Integer.MIN_VALUE, 1}, {-1, 1}, {0, 1}, {1, 1}, {2, 2}, {7, 7}, {8, 8}, {9, 8},
                {Integer.MAX_VALUE, 8}};
        for (int[] row : rows) {
            LayerMoisture x = new LayerMoisture(1, row[0]);
            for (int k = 0; k < row[1]; k++) {
                x.board(k, 100, 0.5, 0);
            }
            due.is("boards " + row[0], x.count(2), row[1]);
            due.isOutOfBounds("boards " + row[0] + ", one more", () -> board(x, row[1], 100, 0.5, 0));
        }
    }

    private static void notThereAtFirst(Due due) {
        due.sentence("A board is not there at first");
        LayerMoisture x = new LayerMoisture(2, 8);
        due.is("none is there", x.count(2), 0);
        for (int k = 0; k < 8; k++) {
            int board = k;
            due.isWrongState("mean of " + k, () -> x.mean(board));
        }
    }

    private static void ratesAtFirst(Due due) {
        due.sentence("A kind has A and B, 0 at first");
        for (int kind = 0; kind < 4; kind++) {
            LayerMoisture x = new LayerMoisture(2, 1);
            x.air(293, 0.5, 0);
            x.board(0, 2, 3, kind);
            x.soak(0, 1, 0);
            due.is("no hour is refused for kind " + kind, x.run(9), 9);
            due.is("nothing moves in kind " + kind, x.wet(0, 0), 3);
        }
    }

    private static void airAtFirst(Due due) {
        due.sentence("AIR has KELVIN (293 at first), DAMP (0.5), SPEED (1), and a share VENT (0)");
        double[] first = {293, 0.5, 1, 0};
        for (int what = 0; what < first.length; what++) {
            due.is("told " + what, new LayerMoisture(1, 1).told(what), first[what]);
        }
    }

    private static void noSuchBoardOrKind(Due due) {
        due.sentence("2: ArrayIndexOutOfBoundsException: no such board, kind");
        LayerMoisture x = new LayerMoisture(2, 3);
        for (int k : new int[] {Integer.MIN_VALUE, -1, 3, 8, Integer.MAX_VALUE}) {
            due.isOutOfBounds("board " + k + " of 3", () -> board(x, k, 10, 1, 0));
        }
        for (int kind : new int[] {Integer.MIN_VALUE, -1, 4, Integer.MAX_VALUE}) {
            due.isOutOfBounds("kind " + kind, () -> board(x, 0, 10, 1, kind));
        }
        due.is("none has come", x.count(2), 0);
        x.board(0, 10, 1, 0);
        x.board(2, 10, 1, 3);
        due.is("the first and the last board and kind", x.count(2), 2);
    }

    private static void thickness(Due due) {
        due.sentence("2: IllegalArgumentException: thick is not 1 .. 400");
        for (double thick : new double[] {1, Math.nextUp(1.0), Math.nextDown(400.0), 400}) {
            LayerMoisture x = new LayerMoisture(2, 1);
            x.board(0, thick, 1, 0);
            due.is("thick " + thick, x.count(2), 1);
        }
        LayerMoisture x = new LayerMoisture(2, 1);
        double[] wrong = {Math.nextDown(1.0), Math.nextUp(400.0), 0, -0.0, -1, -400, TINY, NAN, HUGE, -HUGE};
        for (double thick : wrong) {
            due.isWrongArgument("thick " + thick, () -> board(x, 0, thick, 1, 0));
        }
        due.is("none has come", x.count(2), 0);
    }

    private static void depth(Due due) {
        due.sentence("a depth of a layer, D, which is its thickness / LAYERS");
        double[][] rows = {{1, 1}, {1, 16}, {400, 1}, {400, 16}, {7, 3}};
        for (double[] row : rows) {
            int layers = (int) row[1];
            double depth = row[0] / layers;
            LayerMoisture x = new LayerMoisture(layers, 1);
            x.board(0, row[0], 1, 0);
            x.air(273, 0, 0.0625);
            x.run(1);
            double face = 0.0625 * 1 / (8 * depth);
            due.is("a face of " + row[0] + " / " + layers, x.wet(0, 0), layers == 1 ? 1 - face - face : 1 - face);
        }
    }

    private static void wetness(Due due) {
        due.sentence("2: IllegalArgumentException: .. or wet not 0 .. 3");
        LayerMoisture x = new LayerMoisture(3, 1);
        for (double wet : new double[] {0, -0.0, TINY, Math.nextDown(3.0), 3}) {
            x.board(0, 10, wet, 0);
            for (int layer = 0; layer < 3; layer++) {
                due.is("wet " + wet + ", layer " + layer, x.wet(0, layer), wet);
            }
        }
        for (double wet : new double[] {-TINY, Math.nextUp(3.0), -3, NAN, HUGE, -HUGE}) {
            due.isWrongArgument("wet " + wet, () -> board(x, 0, 10, wet, 0));
        }
        due.is("as before", x.wet(0, 2), 3);
    }

    private static void boardAnew(Due due) {
        due.sentence("2: Board k is there (anew): its thickness, the wetness of all its layers, its kind");
        LayerMoisture x = new LayerMoisture(2, 1);
        x.air(273, 0, 0);
        x.rate(0, 1, 0);
        x.rate(3, 4, 0);
        x.board(0, 8, 1, 0);
        x.soak(0, 1, 0);
        x.run(1);
        due.is("A = 1, D = 4", x.wet(0, 1), 1 / 16.0);
        x.board(0, 16, 2, 3);
        due.is("it is one board still", x.count(2), 1);
        due.is("layer 0 anew", x.wet(0, 0), 2);
        due.is("layer 1 anew", x.wet(0, 1), 2);
        x.soak(0, 1, 1);
        x.run(1);
        due.is("A = 4, D = 8", x.wet(0, 1), 1 + 4 / 64.0);
        due.is("HOURS go on", x.count(0), 2);
    }

    private static void noLimitAnew(Due due) {
        due.sentence("2: (No LIMIT.)");
        LayerMoisture x = new LayerMoisture(2, 1);
        x.air(273, 0, 0);
        x.board(0, 8, 3, 0);
        x.soak(0, 1, 0);
        x.run(1);
        due.is("of a new board", x.check(0), LayerMoisture.NONE);
        x.limit(0, 0);
        x.run(1);
        due.is("an hour is kept", x.check(0), 2);
        x.board(0, 8, 3, 0);
        due.is("it is gone", x.check(0), LayerMoisture.NONE);
        x.soak(0, 1, 0);
        x.run(1);
        due.is("and so is the LIMIT", x.check(0), LayerMoisture.NONE);
    }

    private static void rateOfNoKind(Due due) {
        due.sentence("3: ArrayIndexOutOfBoundsException: there is no such kind");
        LayerMoisture x = new LayerMoisture(2, 8);
        for (int kind : new int[] {Integer.MIN_VALUE, -1, 4, 7, Integer.MAX_VALUE}) {
            due.isOutOfBounds("kind " + kind, () -> rate(x, kind, 1, 1));
        }
    }

    private static void rateBounds(Due due) {
        due.sentence("3: IllegalArgumentException: one is not 0 .. 8");
        for (double right : new double[] {0, -0.0, TINY, Math.nextDown(8.0), 8}) {
            due.is("A = " + right, movedBy(right, 0), right / 40000);
            due.is("B = " + right, movedBy(0, right), right * 0.5 / 40000);
        }
        due.is("A and B the greatest", movedBy(8, 8), 12.0 / 40000);
        for (double wrong : new double[] {-TINY, Math.nextUp(8.0), -8, NAN, HUGE, -HUGE}) {
            LayerMoisture x = new LayerMoisture(2, 1);
            due.isWrongArgument("A = " + wrong, () -> rate(x, 3, wrong, 8));
            due.isWrongArgument("B = " + wrong, () -> rate(x, 3, 8, wrong));
            due.is("A and B as before", moved(x), 0);
        }
    }

    private static double movedBy(double a, double b) {
        LayerMoisture x = new LayerMoisture(2, 1);
        x.rate(3, a, b);
        return moved(x);
    }

    /** What goes in an hour from a layer of 1 to one of 0, D being 200. */
    private static double moved(LayerMoisture x) {
        x.air(273, 0, 0);
        x.board(0, 400, 1, 3);
        x.soak(0, 1, 0);
        x.run(1);
        return x.wet(0, 1);
    }

    private static void airBounds(Due due) {
        due.sentence("4: IllegalArgumentException: these are not 250 .. 400, 0 .. 1, 0 .. 16");
        double[][] right = {{250, Math.nextUp(250.0), Math.nextDown(400.0), 400},
                {0, TINY, Math.nextDown(1.0), 1}, {0, TINY, Math.nextDown(16.0), 16}};
        double[][] wrong = {{Math.nextDown(250.0), Math.nextUp(400.0), 0, -250, NAN, HUGE, -HUGE},
                {-TINY, Math.nextUp(1.0), -1, NAN, HUGE, -HUGE}, {-TINY, Math.nextUp(16.0), -16, NAN, HUGE, -HUGE}};
        for (int what = 0; what < 3; what++) {
            for (double number : right[what]) {
                LayerMoisture x = new LayerMoisture(1, 1);
                double[] tried = tried(what, number);
                x.air(tried[0], tried[1], tried[2]);
                for (int told = 0; told < 3; told++) {
                    due.is("told " + told + ", " + what + " being " + number, x.told(told), tried[told]);
                }
            }
            for (double number : wrong[what]) {
                LayerMoisture x = new LayerMoisture(1, 1);
                double[] tried = tried(what, number);
                due.isWrongArgument(what + " is " + number, () -> air(x, tried));
                due.is("KELVIN as before", x.told(0), 293);
                due.is("DAMP as before", x.told(1), 0.5);
                due.is("SPEED as before", x.told(2), 1);
            }
        }
    }

    private static double[] tried(int what, double number) {
        double[] all = {300, 0.25, 5};
        all[what] = number;
        return all;
    }

    private static void ventBounds(Due due) {
        due.sentence("5: IllegalArgumentException: it is not 0 .. 1");
        LayerMoisture x = new LayerMoisture(1, 1);
        for (double share : new double[] {0, -0.0, TINY, Math.nextDown(1.0), 1}) {
            x.vent(share);
            due.is("vent " + share, x.told(3), share);
        }
        x.vent(0.75);
        for (double share : new double[] {-TINY, Math.nextUp(1.0), -1, NAN, HUGE, -HUGE}) {
            due.isWrongArgument("vent " + share, () -> vent(x, share));
            due.is("as before", x.told(3), 0.75);
        }
    }

    private static void soakOfNoLayer(Due due) {
        due.sentence("6: ArrayIndexOutOfBoundsException: there is no such board, layer");
        LayerMoisture x = new LayerMoisture(3, 2);
        x.board(0, 10, 1, 0);
        x.board(1, 10, 1, 0);
        for (int board : new int[] {Integer.MIN_VALUE, -1, 2, Integer.MAX_VALUE}) {
            due.isOutOfBounds("board " + board + " of 2", () -> soak(x, board, 0, 2));
        }
        for (int layer : new int[] {Integer.MIN_VALUE, -1, 3, 16, Integer.MAX_VALUE}) {
            due.isOutOfBounds("layer " + layer + " of 3", () -> soak(x, 0, layer, 2));
        }
        for (int layer = 0; layer < 3; layer++) {
            due.is("layer " + layer + " as before", x.wet(0, layer), 1);
        }
    }

    private static void soakBounds(Due due) {
        due.sentence("6: IllegalArgumentException: it is not 0 .. 3");
        LayerMoisture x = new LayerMoisture(3, 1);
        x.board(0, 10, 1, 0);
        for (int layer = 0; layer < 3; layer += 2) {
            for (double wet : new double[] {0, -0.0, TINY, Math.nextDown(3.0), 3}) {
                x.soak(0, layer, wet);
                due.is("layer " + layer + " is " + wet, x.wet(0, layer), wet);
            }
            for (double wet : new double[] {-TINY, Math.nextUp(3.0), -3, NAN, HUGE, -HUGE}) {
                int wrong = layer;
                due.isWrongArgument("layer " + layer + " is " + wet, () -> soak(x, 0, wrong, wet));
                due.is("as before", x.wet(0, layer), 3);
            }
        }
        due.is("the layer between them", x.wet(0, 1), 1);
    }

    private static void soakOfNoBoard(Due due) {
        due.sentence("6: IllegalStateException: that board is not there");
        LayerMoisture x = new LayerMoisture(3, 2);
        x.board(1, 10, 1, 0);
        due.isWrongState("board 0", () -> soak(x, 0, 2, 3));
        due.is("it does not come by that", x.count(2), 1);
        x.board(0, 10, 1, 0);
        due.is("nor is it kept", x.wet(0, 2), 1);
    }

    private static Object board(LayerMoisture x, int k, double thick, double wet, int kind) {
        x.board(k, thick, wet, kind);
        return null;
    }

    private static Object rate(LayerMoisture x, int kind, double a, double b) {
        x.rate(kind, a, b);
        return null;
    }

    private static Object air(LayerMoisture x, double[] numbers) {
        x.air(numbers[0], numbers[1], numbers[2]);
        return null;
    }

    private static Object vent(LayerMoisture x, double share) {
        x.vent(share);
        return null;
    }

    private static Object soak(LayerMoisture x, int board, int layer, double wet) {
        x.soak(board, layer, wet);
        return null;
    }
}
