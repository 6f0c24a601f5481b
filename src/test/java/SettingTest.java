/** Promises 1 to 6: a new object, board, rate, air, vent, soak. */
public final class SettingTest {
    private static final double NAN = Double.NaN;
    private static final double HUGE = Double.POSITIVE_INFINITY;

    public static void main(String[] args) {
        Due due = new Due("SettingTest");
        newObject(due);
        newState(due);
        board(due);
        boardAnew(due);
        boardWrong(due);
        rate(due);
        air(due);
        vent(due);
        soak(due);
        due.end();
    }

    private static void newObject(Due due) {
        int[][] sizes = {{1, 1, 1, 1}, {16, 8, 16, 8}, {0, 0, 1, 1}, {17, 9, 16, 8}, {5, 3, 5, 3},
                {Integer.MIN_VALUE, Integer.MAX_VALUE, 1, 8}, {Integer.MAX_VALUE, Integer.MIN_VALUE, 16, 1}};
        for (int[] s : sizes) {
            String made = "1: new (" + s[0] + ", " + s[1] + ") ";
            LayerMoisture x = new LayerMoisture(s[0], s[1]);
            for (int k = 0; k < s[3]; k++) {
                int board = k;
                due.isWrongState(made + "board is not there", () -> x.mean(board));
            }
            due.isOutOfBounds(made + "boards end", () -> x.mean(s[3]));
            due.isOutOfBounds(made + "boards begin", () -> x.mean(-1));
            due.isWrongState(made + "last layer", () -> x.wet(0, s[2] - 1));
            due.isOutOfBounds(made + "layers end", () -> x.wet(0, s[2]));
        }
    }

    private static void newState(Due due) {
        LayerMoisture x = new LayerMoisture(3, 3);
        due.is("1: KELVIN", x.told(0), 293);
        due.is("1: DAMP", x.told(1), 0.5);
        due.is("1: SPEED", x.told(2), 1);
        due.is("1: VENT", x.told(3), 0);
        due.is("1: REST", x.told(4), 0);
        due.is("1: grams", x.grams(), 0L);
        for (int what = 0; what < 3; what++) {
            due.is("1: count " + what, x.count(what), 0);
        }
        // A and B are 0 at first, so nothing moves between layers.
        x.board(0, 300, 0, 3);
        x.soak(0, 1, 3);
        x.run(5);
        due.is("1: the middle keeps its water", x.wet(0, 1), 3);
    }

    private static void board(Due due) {
        LayerMoisture x = new LayerMoisture(4, 2);
        x.board(1, 16, 0.75, 2);
        due.is("2: boards there", x.count(2), 1);
        for (int i = 0; i < 4; i++) {
            due.is("2: wet of layer " + i, x.wet(1, i), 0.75);
        }
        due.isWrongState("2: the other board", () -> x.wet(0, 0));
        double[][] edges = {{1, 0}, {1, 3}, {400, 0}, {400, 3}};
        for (double[] e : edges) {
            x.board(0, e[0], e[1], 0);
            due.is("2: edge " + e[0] + ", " + e[1], x.wet(0, 3), e[1]);
        }
        due.is("2: boards there", x.count(2), 2);
        x.board(0, 1, 1, 3);
        due.is("2: kind 3", x.wet(0, 0), 1);
    }

    private static void boardAnew(Due due) {
        LayerMoisture x = Boards.twoLayers();
        x.limit(0, 0);
        x.soak(0, 1, 0);
        x.run(1);
        due.is("2: an hour was kept", x.check(0), 1);
        x.board(0, 16, 0.25, 1);
        due.is("2: anew, no hour is kept", x.check(0), LayerMoisture.NONE);
        due.is("2: anew, wet 0", x.wet(0, 0), 0.25);
        due.is("2: anew, wet 1", x.wet(0, 1), 0.25);
        due.is("2: anew, boards there", x.count(2), 1);
        x.soak(0, 1, 0);
        x.run(3);
        due.is("2: anew, no LIMIT", x.check(0), LayerMoisture.NONE);
        // Depth 8 and kind 1 are the new ones: A = B = 0, so only the face dries.
        x.board(0, 16, 1, 1);
        x.air(273, 0, 1);
        x.soak(0, 1, 0);
        x.run(1);
        due.is("2: anew, the new depth and kind", x.wet(0, 0), 1 - 1.0 / 64);
    }

    private static void boardWrong(Due due) {
        LayerMoisture x = Boards.twoLayers();
        String before = Boards.stateOf(x, 1, 2);
        due.isOutOfBounds("2: board -1", () -> board(x, -1, 8, 1, 0));
        due.isOutOfBounds("2: board 1 of 1", () -> board(x, 1, 8, 1, 0));
        due.isOutOfBounds("2: kind -1", () -> board(x, 0, 8, 1, -1));
        due.isOutOfBounds("2: kind 4", () -> board(x, 0, 8, 1, 4));
        due.isOutOfBounds("2: kind before thick", () -> board(x, 0, 0, 9, 4));
        due.isOutOfBounds("2: board before wet", () -> board(x, 7, 0, 9, 0));
        due.isOutOfBounds("2: least board", () -> board(x, Integer.MIN_VALUE, 0, 9, 0));
        due.isOutOfBounds("2: greatest kind", () -> board(x, 0, 0, 9, Integer.MAX_VALUE));
        for (double thick : new double[] {0.999, 400.001, 0, -1, NAN, HUGE, -HUGE}) {
            due.isWrongArgument("2: thick " + thick, () -> board(x, 0, thick, 1, 0));
        }
        for (double wet : new double[] {-0.001, 3.001, -1, NAN, HUGE, -HUGE}) {
            due.isWrongArgument("2: wet " + wet, () -> board(x, 0, 8, wet, 0));
        }
        due.is("2: nothing has changed", Boards.stateOf(x, 1, 2), before);
    }

    private static Object board(LayerMoisture x, int k, double thick, double wet, int kind) {
        x.board(k, thick, wet, kind);
        return null;
    }

    private static void rate(Due due) {
        LayerMoisture x = new LayerMoisture(2, 1);
        for (int kind = 0; kind < 4; kind++) {
            x.rate(kind, kind + 1, 2);
        }
        x.air(293, 0, 0);
        for (int kind = 0; kind < 4; kind++) {
            x.board(0, 16, 1, kind);
            x.soak(0, 1, 0);
            x.run(1);
            due.is("3: kind " + kind, x.wet(0, 1), (kind + 2) / 64.0);
        }
        due.isOutOfBounds("3: kind -1", () -> rate(x, -1, 0, 0));
        due.isOutOfBounds("3: kind 4", () -> rate(x, 4, 0, 0));
        due.isOutOfBounds("3: kind before a", () -> rate(x, 4, 9, NAN));
        for (double wrong : new double[] {-0.001, 8.001, NAN, HUGE, -HUGE}) {
            due.isWrongArgument("3: a " + wrong, () -> rate(x, 0, wrong, 5));
            due.isWrongArgument("3: b " + wrong, () -> rate(x, 0, 5, wrong));
        }
        x.board(0, 16, 1, 0);
        x.soak(0, 1, 0);
        x.run(1);
        due.is("3: a wrong rate changes nothing", x.wet(0, 1), 2 / 64.0);
        x.rate(1, 8, 8);
        x.rate(1, 0, 0);
        x.board(0, 16, 1, 1);
        x.soak(0, 1, 0);
        x.run(1);
        due.is("3: the edges 8 and 0", x.wet(0, 1), 0);
    }

    private static Object rate(LayerMoisture x, int kind, double a, double b) {
        x.rate(kind, a, b);
        return null;
    }

    private static void air(Due due) {
        LayerMoisture x = new LayerMoisture(2, 1);
        double[][] right = {{300.5, 0.25, 3}, {250, 0, 0}, {400, 1, 16}};
        for (double[] r : right) {
            x.air(r[0], r[1], r[2]);
            for (int what = 0; what < 3; what++) {
                due.is("4: told " + what, x.told(what), r[what]);
            }
        }
        double[] low = {249.999, -0.001, -0.001};
        double[] high = {400.001, 1.001, 16.001};
        for (int what = 0; what < 3; what++) {
            for (double wrong : new double[] {low[what], high[what], NAN, HUGE, -HUGE}) {
                double[] tried = {300, 0.5, 5};
                tried[what] = wrong;
                due.isWrongArgument("4: " + what + " is " + wrong, () -> {
                    x.air(tried[0], tried[1], tried[2]);
                    return null;
                });
            }
        }
        due.is("4: KELVIN as before", x.told(0), 400);
        due.is("4: DAMP as before", x.told(1), 1);
        due.is("4: SPEED as before", x.told(2), 16);
    }

    private static void vent(Due due) {
        LayerMoisture x = new LayerMoisture(2, 1);
        for (double share : new double[] {0.25, 0, 1}) {
            x.vent(share);
            due.is("5: vent " + share, x.told(3), share);
        }
        for (double wrong : new double[] {-0.001, 1.001, NAN, HUGE, -HUGE}) {
            due.isWrongArgument("5: vent " + wrong, () -> {
                x.vent(wrong);
                return null;
            });
        }
        due.is("5: VENT as before", x.told(3), 1);
    }

    private static void soak(Due due) {
        LayerMoisture x = new LayerMoisture(3, 2);
        x.board(1, 30, 1, 0);
        x.soak(1, 0, 0);
        x.soak(1, 2, 3);
        due.is("6: soaked 0", x.wet(1, 0), 0);
        due.is("6: left alone", x.wet(1, 1), 1);
        due.is("6: soaked 2", x.wet(1, 2), 3);
        due.isOutOfBounds("6: board -1", () -> soak(x, -1, 0, 1));
        due.isOutOfBounds("6: board 2 of 2", () -> soak(x, 2, 0, 9));
        due.isOutOfBounds("6: layer -1", () -> soak(x, 1, -1, 1));
        due.isOutOfBounds("6: layer 3 of 3", () -> soak(x, 1, 3, 1));
        due.isOutOfBounds("6: layer before wet and state", () -> soak(x, 0, 3, 9));
        for (double wrong : new double[] {-0.001, 3.001, NAN, HUGE, -HUGE}) {
            due.isWrongArgument("6: wet " + wrong, () -> soak(x, 1, 1, wrong));
            due.isWrongArgument("6: wet " + wrong + " before state", () -> soak(x, 0, 1, wrong));
        }
        due.isWrongState("6: a board that is not there", () -> soak(x, 0, 1, 1));
        due.is("6: as before", x.wet(1, 1), 1);
        due.is("6: still one board", x.count(2), 1);
        x.board(0, 30, 1, 0);
        due.is("6: a refused soak leaves nothing behind", x.wet(0, 1), 1);
    }

    private static Object soak(LayerMoisture x, int board, int layer, double wet) {
        x.soak(board, layer, wet);
        return null;
    }
}
