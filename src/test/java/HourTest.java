/** Promise 9: run, and all that an hour does; the numbers are reckoned by hand. */
public final class HourTest {
    public static void main(String[] args) {
        Due due = new Due("HourTest");
        answers(due);
        oneLayer(due);
        twoLayers(due);
        threeLayers(due);
        carriedRests(due);
        waterTakenUp(due);
        ventAndDamp(due);
        boardsInOrder(due);
        scheduleFirst(due);
        refusedBySpeed(due);
        refusedByRate(due);
        refusedMidway(due);
        due.end();
    }

    private static void answers(Due due) {
        LayerMoisture x = new LayerMoisture(1, 1);
        due.is("9: run 0", x.run(0), 0);
        due.is("9: run 1", x.run(1), 1);
        due.is("9: run 100", x.run(100), 101);
        due.is("9: run 0", x.run(0), 101);
        for (int wrong : new int[] {-1, 101, Integer.MIN_VALUE, Integer.MAX_VALUE}) {
            due.isWrongArgument("9: run " + wrong, () -> x.run(wrong));
        }
        due.is("9: HOURS as before", x.count(0), 101);
    }

    private static void oneLayer(Due due) {
        LayerMoisture x = new LayerMoisture(1, 1);
        x.board(0, 4, 1, 0);
        x.rate(0, 3, 0);
        x.air(273, 1, 2);
        x.run(1);
        // BALANCE 0.375, G = H = 2 * 0.625 / 32.
        due.is("9: one layer", x.wet(0, 0), 1 - 0.0390625 - 0.0390625);
        due.is("9: grams", x.grams(), 20L);
        due.is("9: REST", x.told(4), 0);
    }

    private static void twoLayers(Due due) {
        LayerMoisture x = Boards.twoLayers();
        x.air(273, 1, 2);
        due.is("9: run", x.run(1), 1);
        // F(0) = (1 + 2 * 0.75) * 0.5 / 16, G = 2 * 0.625 / 32, H = 2 * 0.125 / 32.
        due.is("9: layer 0", x.wet(0, 0), 0.8828125);
        due.is("9: layer 1", x.wet(0, 1), 0.5703125);
        due.is("9: grams", x.grams(), 12L);
        due.is("9: REST", x.told(4), 0);
        due.is("9: HOURS", x.count(0), 1);
    }

    private static void threeLayers(Due due) {
        LayerMoisture x = new LayerMoisture(3, 1);
        x.board(0, 12, 1, 1);
        x.soak(0, 1, 0.5);
        x.soak(0, 2, 0.25);
        x.rate(1, 1, 2);
        x.air(273, 0, 4);
        x.run(1);
        // F = 0.078125, 0.02734375; G = 4 * 1 / 32, H = 4 * 0.25 / 32.
        due.is("9: layer 0", x.wet(0, 0), 1 - 0.125 - 0.078125);
        due.is("9: layer 1", x.wet(0, 1), 0.5 + 0.078125 - 0.02734375);
        due.is("9: layer 2", x.wet(0, 2), 0.25 + 0.02734375 - 0.03125);
        due.is("9: grams", x.grams(), 40L);
        due.is("9: DAMP", x.told(1), 40.0 / 65536);
    }

    private static void carriedRests(Due due) {
        LayerMoisture x = Boards.twoLayers();
        x.air(273, 1, 0.25);
        x.run(1);
        due.is("9: 1 gram of 1.5", x.grams(), 1L);
        due.is("9: the rest", x.told(4), 0.5);
        x.board(0, 8, 1, 0);
        x.soak(0, 1, 0.5);
        x.air(273, 1, 0.25);
        x.run(1);
        due.is("9: 2 grams more, of 0.5 and 1.5", x.grams(), 3L);
        due.is("9: no rest", x.told(4), 0);
    }

    private static void waterTakenUp(Due due) {
        LayerMoisture x = new LayerMoisture(2, 1);
        x.board(0, 8, 0, 0);
        x.air(273, 1, 0.25);
        x.run(1);
        due.is("9: wetter", x.wet(0, 0), 0.0029296875);
        due.is("9: -1 gram of -1.5, cut off", x.grams(), -1L);
        due.is("9: the rest is below 0", x.told(4), -0.5);
        due.is("9: DAMP falls", x.told(1), 1 - 1.5 / 65536);
    }

    private static void ventAndDamp(Due due) {
        double[][] shares = {{0, 0.5 + 18.0 / 65536}, {0.5, 0.5 + 9.0 / 65536}, {1, 0.5}};
        for (double[] s : shares) {
            LayerMoisture x = Boards.twoLayers();
            x.air(273, 0.5, 2);
            x.vent(s[0]);
            x.run(1);
            due.is("9: 18 grams", x.grams(), 18L);
            due.is("9: DAMP at a vent of " + s[0], x.told(1), s[1]);
        }
        LayerMoisture x = Boards.twoLayers();
        x.air(273, 0.9999, 2);
        x.run(1);
        due.is("9: DAMP is not above 1", x.told(1), 1);
    }

    private static void boardsInOrder(Due due) {
        LayerMoisture x = new LayerMoisture(1, 3);
        x.board(2, 4, 0, 0);
        x.board(0, 4, 3, 0);
        x.air(273, 0, 8);
        x.run(1);
        // Board 0 gives 8 * 3 / 32 * 2 * 256 grams to the dry air; board 2 meets that air.
        double damp = 384.0 / 65536;
        double flow = 8 * (0 - 0.375 * damp) / 32;
        due.is("9: board 0", x.wet(0, 0), 1.5);
        due.is("9: board 2 meets DAMP of board 0", x.wet(2, 0), 0 - flow - flow);
        due.is("9: DAMP of both", x.told(1), damp + (flow + flow) * 4 * 64 / 65536);
    }

    private static void scheduleFirst(Due due) {
        LayerMoisture x = new LayerMoisture(1, 1);
        x.board(0, 4, 1, 0);
        x.air(400, 0, 2);
        Boards.schedule(x, "h0:273,100");
        x.run(1);
        due.is("9: the hour has the step's air", x.wet(0, 0), 1 - 0.0390625 - 0.0390625);
    }

    private static void refusedBySpeed(Due due) {
        LayerMoisture x = new LayerMoisture(2, 2);
        x.board(1, 16, 1, 0);
        x.air(300, 0.5, 16);
        due.is("9: 16 / 64 is not above 0.25", x.run(1), 1);
        x.board(1, 15.99, 1, 0);
        Boards.schedule(x, "h0:310,20");
        String before = Boards.stateOf(x, 2, 2);
        due.is("9: refused", x.run(3), -2);
        due.is("9: it does nothing", Boards.stateOf(x, 2, 2), before);
        due.is("9: no hour is refused if none is run", x.run(0), 1);
        x.air(300, 0.5, 15);
        due.is("9: no longer", x.run(2), 3);
        due.is("9: the schedule goes on", x.count(1), 1);
    }

    private static void refusedByRate(Due due) {
        LayerMoisture x = new LayerMoisture(2, 2);
        x.air(300, 0.5, 0);
        x.board(1, 8, 1, 2);
        x.rate(2, 2, 2);
        due.is("9: 4 / 16 is not above 0.25", x.run(1), 1);
        x.soak(1, 1, 1.0625);
        due.is("9: the greatest wetness counts", x.run(1), -2);
        x.soak(1, 1, 0);
        due.is("9: not another layer's", x.run(1), 2);
        x.rate(2, 4.0625, 0);
        due.is("9: A counts", x.run(1), -3);
        x.rate(2, 0, 8);
        due.is("9: B counts", x.run(1), -3);
        x.rate(2, 0, 0);
        x.rate(3, 8, 8);
        due.is("9: a kind of no board does not count", x.run(1), 3);
        LayerMoisture one = new LayerMoisture(1, 1);
        one.board(0, 1, 0, 0);
        one.air(300, 0.5, 0);
        one.rate(0, 0.25, 8);
        due.is("9: one layer, 0.25", one.run(1), 1);
        one.rate(0, 0.5, 0);
        due.is("9: of one layer, too", one.run(1), -2);
    }

    private static void refusedMidway(Due due) {
        LayerMoisture x = new LayerMoisture(1, 1);
        x.board(0, 4, 0, 0);
        x.rate(0, 3.875, 8);
        x.air(273, 1, 0.5);
        // W grows by 1 / 32 of what it lacks to some 0.375, and 1 / 64 is where B * W refuses.
        due.is("9: some hours pass, then one is refused", x.run(10), -3);
        due.is("9: HOURS", x.count(0), 2);
        due.is("9: at once", x.run(1), -3);
    }
}
