/** Promises 10 and 11: limit and check. */
public final class LimitTest {
    public static void main(String[] args) {
        Due due = new Due("LimitTest");
        keeps(due);
        aboveAlone(due);
        sizeOfStress(due);
        anew(due);
        boardsApart(due);
        wrong(due);
        due.end();
    }

    /** A board whose layers keep their wetness: its LOAD is 0.0390625 at any hour. */
    private static LayerMoisture still() {
        LayerMoisture x = new LayerMoisture(2, 2);
        x.air(293, 0.5, 0);
        x.board(0, 8, 3, 0);
        x.soak(0, 1, 0);
        return x;
    }

    private static Object limit(LayerMoisture x, int board, double load) {
        x.limit(board, load);
        return null;
    }

    private static void keeps(Due due) {
        LayerMoisture x = still();
        due.is("11: no limit yet", x.check(0), LayerMoisture.NONE);
        x.run(3);
        due.is("11: without a limit no hour is kept", x.check(0), LayerMoisture.NONE);
        x.limit(0, 0.03125);
        due.is("11: none before the next hour", x.check(0), LayerMoisture.NONE);
        x.run(1);
        due.is("11: HOURS at the end of that hour", x.check(0), 4);
        x.run(5);
        due.is("11: the first hour stays", x.check(0), 4);
        x.soak(0, 1, 3);
        x.run(1);
        due.is("11: also when the load is gone", x.check(0), 4);
    }

    private static void aboveAlone(Due due) {
        LayerMoisture x = still();
        x.limit(0, 0.0390625);
        x.run(2);
        due.is("10: the load is not above its like", x.check(0), LayerMoisture.NONE);
        x.soak(0, 0, 0);
        x.limit(0, 0);
        x.run(2);
        due.is("10: no load, limit 0", x.check(0), LayerMoisture.NONE);
        x.limit(0, Double.POSITIVE_INFINITY);
        x.soak(0, 1, 3);
        x.run(1);
        due.is("10: a limit without end", x.check(0), LayerMoisture.NONE);
        x.limit(0, -0.0);
        x.run(1);
        due.is("10: -0 is 0", x.check(0), 6);
    }

    private static void sizeOfStress(Due due) {
        // S = 0.078125, 0, 0, 0: the stresses are 0.05859375 and three of -0.01953125.
        LayerMoisture x = new LayerMoisture(4, 2);
        x.air(293, 0.5, 0);
        x.board(0, 8, 3, 0);
        x.soak(0, 2, 0);
        x.limit(0, 0.0585);
        // S = 0, and three of 0.078125: -0.05859375 is the greatest by its size.
        x.board(1, 8, 0, 0);
        x.soak(1, 3, 1);
        x.limit(1, 0.0585);
        x.run(1);
        due.is("11: a stress above", x.check(0), 1);
        due.is("11: a stress below", x.check(1), 1);
        x.limit(0, 0.0586);
        x.limit(1, 0.0586);
        x.run(1);
        due.is("11: not so great", x.check(0), LayerMoisture.NONE);
        due.is("11: not so low", x.check(1), LayerMoisture.NONE);
        for (int layer = 0; layer < 4; layer++) {
            x.board(0, 8, 3, 0);
            x.soak(0, layer, 0);
            x.limit(0, 0.0585);
            x.run(1);
            due.is("11: the greatest is in layer " + layer, x.check(0), x.count(0));
        }
    }

    private static void anew(Due due) {
        LayerMoisture x = still();
        x.limit(0, 0);
        x.run(1);
        x.limit(0, 1);
        due.is("10: no hour is kept of the new limit", x.check(0), LayerMoisture.NONE);
        x.run(1);
        due.is("10: the new limit counts", x.check(0), LayerMoisture.NONE);
        x.limit(0, 0.01);
        x.run(1);
        due.is("10: the newest", x.check(0), 3);
    }

    private static void boardsApart(Due due) {
        LayerMoisture x = still();
        x.board(1, 8, 3, 0);
        x.limit(0, 0.01);
        x.limit(1, 0.01);
        x.run(2);
        due.is("11: board 0", x.check(0), 1);
        due.is("11: board 1", x.check(1), LayerMoisture.NONE);
        x.soak(1, 0, 0);
        x.run(2);
        due.is("11: board 0", x.check(0), 1);
        due.is("11: board 1", x.check(1), 3);
    }

    private static void wrong(Due due) {
        LayerMoisture x = still();
        x.limit(0, 0.01);
        x.run(1);
        due.isOutOfBounds("10: board -1", () -> limit(x, -1, 1));
        due.isOutOfBounds("10: board 2 of 2", () -> limit(x, 2, -1));
        for (double load : new double[] {-0.001, Double.NaN, Double.NEGATIVE_INFINITY}) {
            due.isWrongArgument("10: load " + load, () -> limit(x, 0, load));
            due.isWrongArgument("10: load " + load + " before state", () -> limit(x, 1, load));
        }
        due.isWrongState("10: not there", () -> limit(x, 1, 0));
        due.isOutOfBounds("11: board -1", () -> x.check(-1));
        due.isOutOfBounds("11: board 2 of 2", () -> x.check(2));
        due.isWrongState("11: not there", () -> x.check(1));
        due.is("10: nothing has changed", x.check(0), 1);
    }
}
