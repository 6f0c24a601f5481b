import java.util.ArrayList;
import java.util.List;

/**
 * "A call that throws changes nothing; of several exceptions the one named first is thrown": each
 * wrong call is made on an object in full use, whose later answers are then held against those of a
 * like object on which the call was not made.
 */
public final class ThrowTest {
    private static final Class<?> INDEX = ArrayIndexOutOfBoundsException.class;
    private static final Class<?> ARGUMENT = IllegalArgumentException.class;
    private static final Class<?> STATE = IllegalStateException.class;
    private static final int LAYERS = 3;
    private static final int BOARDS = 4;
    private static final int AWAY = 1;
    private static final double[] BEYOND = {-0.5, 401, Double.NaN, Double.POSITIVE_INFINITY};

    private interface Call {
        void on(LayerMoisture x);
    }

    private static final class Wrong {
        final String name;
        final Call call;
        final Class<?> due;

        Wrong(String name, Class<?> due, Call call) {
            this.name = name;
            this.call = call;
            this.due = due;
        }
    }

    private final List<Wrong> all = new ArrayList<>();

    public static void main(String[] args) {
        Due due = new Due("ThrowTest");
        ThrowTest test = new ThrowTest();
        test.addIndexCalls();
        test.addArgumentCalls();
        test.addStateCalls();
        test.addOrderedCalls();
        String untouched = laterAnswers(inFullUse());
        for (Wrong wrong : test.all) {
            LayerMoisture x = inFullUse();
            due.sentence("of several exceptions the one named first is thrown");
            due.is(wrong.name, Due.thrownBy(() -> {
                wrong.call.on(x);
                return null;
            }), wrong.due);
            due.sentence("A call that throws changes nothing");
            due.is(wrong.name, laterAnswers(x), untouched);
        }
        due.end();
    }

    /** Boards, rates, limits, rests, a schedule that is half done and a text that is half written. */
    private static LayerMoisture inFullUse() {
        LayerMoisture x = new LayerMoisture(LAYERS, BOARDS);
        for (int kind = 0; kind < 4; kind++) {
            x.rate(kind, 0.5 + kind, 0.25 * kind);
        }
        x.air(310, 0.6, 1.5);
        x.vent(0.125);
        for (int k = 0; k < BOARDS; k++) {
            if (k != AWAY) {
                x.board(k, 30 + k, 0.2 + 0.05 * k, k);
                x.soak(k, 1, 1.1);
            }
        }
        x.limit(0, 0.001);
        x.limit(2, 0.04);
        Boards.schedule(x, "h1:305,55;h8:320,40;w30:330,35");
        x.run(4);
        Boards.write(x, "h0:3");
        return x;
    }

    private static String laterAnswers(LayerMoisture x) {
        StringBuilder all = new StringBuilder(Boards.stateOf(x, BOARDS, LAYERS));
        for (int day = 0; day < 4; day++) {
            all.append('\n').append(x.run(3)).append('\n').append(Boards.stateOf(x, BOARDS, LAYERS));
        }
        Boards.write(x, "99,1");
        all.append('\n').append(x.schedule()).append(' ').append(x.run(1));
        for (int kind = 0; kind < 4; kind++) {
            x.board(AWAY, 40, 0.1, kind);
            x.soak(AWAY, 1, 0.9);
            all.append('\n').append(x.run(2)).append('\n').append(Boards.stateOf(x, BOARDS, LAYERS));
        }
        return all.toString();
    }

    private void add(String name, Class<?> due, Call call) {
        all.add(new Wrong(name, due, call));
    }

    private void addIndexCalls() {
        for (int k : new int[] {Integer.MIN_VALUE, -1, BOARDS, Integer.MAX_VALUE}) {
            add("board of board " + k, INDEX, x -> x.board(k, 20, 1, 1));
            add("soak of board " + k, INDEX, x -> x.soak(k, 0, 1));
            add("limit of board " + k, INDEX, x -> x.limit(k, 0));
            add("check of board " + k, INDEX, x -> x.check(k));
            add("wet of board " + k, INDEX, x -> x.wet(k, 0));
            add("mean of board " + k, INDEX, x -> x.mean(k));
            add("stress of board " + k, INDEX, x -> x.stress(k, 0));
            add("board of kind " + k, INDEX, x -> x.board(0, 20, 1, k));
            add("rate of kind " + k, INDEX, x -> x.rate(k, 1, 1));
        }
        for (int layer : new int[] {Integer.MIN_VALUE, -1, LAYERS, Integer.MAX_VALUE}) {
            add("soak of layer " + layer, INDEX, x -> x.soak(0, layer, 1));
            add("wet of layer " + layer, INDEX, x -> x.wet(0, layer));
            add("stress of layer " + layer, INDEX, x -> x.stress(0, layer));
        }
        for (int what : new int[] {Integer.MIN_VALUE, -1, 5, Integer.MAX_VALUE}) {
            add("told " + what, INDEX, x -> x.told(what));
            add("count " + what, INDEX, x -> x.count(what));
        }
    }

    private void addArgumentCalls() {
        for (double wrong : BEYOND) {
            add("board, thick " + wrong, ARGUMENT, x -> x.board(0, wrong, 1, 1));
            add("board, wet " + wrong, ARGUMENT, x -> x.board(0, 20, wrong, 1));
            add("board, wet " + wrong + ", that was not there", ARGUMENT, x -> x.board(AWAY, 20, wrong, 1));
            add("rate, a " + wrong, ARGUMENT, x -> x.rate(1, wrong, 7));
            add("rate, b " + wrong, ARGUMENT, x -> x.rate(1, 7, wrong));
            add("air, kelvin " + wrong, ARGUMENT, x -> x.air(wrong, 0.1, 3));
            add("air, damp " + wrong, ARGUMENT, x -> x.air(260, wrong, 3));
            add("air, speed " + wrong, ARGUMENT, x -> x.air(260, 0.1, wrong));
            add("vent " + wrong, ARGUMENT, x -> x.vent(wrong));
            add("soak, wet " + wrong, ARGUMENT, x -> x.soak(0, 1, wrong));
        }
        for (double wrong : new double[] {-0.5, Double.NaN, Double.NEGATIVE_INFINITY}) {
            add("limit " + wrong, ARGUMENT, x -> x.limit(0, wrong));
        }
        for (int hours : new int[] {Integer.MIN_VALUE, -1, 101, Integer.MAX_VALUE}) {
            add("run " + hours, ARGUMENT, x -> x.run(hours));
        }
    }

    private void addStateCalls() {
        add("soak of no board", STATE, x -> x.soak(AWAY, 0, 1));
        add("limit of no board", STATE, x -> x.limit(AWAY, 0));
        add("check of no board", STATE, x -> x.check(AWAY));
        add("wet of no board", STATE, x -> x.wet(AWAY, 0));
        add("mean of no board", STATE, x -> x.mean(AWAY));
        add("stress of no board", STATE, x -> x.stress(AWAY, 0));
    }

    private void addOrderedCalls() {
        for (double wrong : BEYOND) {
            add("board -1, thick and wet " + wrong, INDEX, x -> x.board(-1, wrong, wrong, 0));
            add("board, kind 4, thick and wet " + wrong, INDEX, x -> x.board(0, wrong, wrong, 4));
            add("board -1, kind 4, thick " + wrong, INDEX, x -> x.board(-1, wrong, 1, 4));
            add("rate of kind 4, " + wrong, INDEX, x -> x.rate(4, wrong, wrong));
            add("soak of board 4, wet " + wrong, INDEX, x -> x.soak(BOARDS, 0, wrong));
            add("soak of layer 3, wet " + wrong, INDEX, x -> x.soak(0, LAYERS, wrong));
            add("soak of no board's layer 3, wet " + wrong, INDEX, x -> x.soak(AWAY, LAYERS, wrong));
            add("soak of no board, wet " + wrong, ARGUMENT, x -> x.soak(AWAY, 0, wrong));
        }
        for (double wrong : new double[] {-0.5, Double.NaN, Double.NEGATIVE_INFINITY}) {
            add("limit of board 4, " + wrong, INDEX, x -> x.limit(BOARDS, wrong));
            add("limit of no board, " + wrong, ARGUMENT, x -> x.limit(AWAY, wrong));
        }
        add("soak of no board's layer -1", INDEX, x -> x.soak(AWAY, -1, 1));
        add("wet of no board's layer 3", INDEX, x -> x.wet(AWAY, LAYERS));
        add("wet of no board's layer -1", INDEX, x -> x.wet(AWAY, -1));
        add("stress of no board's layer 3", INDEX, x -> x.stress(AWAY, LAYERS));
        add("stress of no board's layer -1", INDEX, x -> x.stress(AWAY, -1));
    }
}
