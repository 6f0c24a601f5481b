/**
 * Boards that dry by layers: water moves between the layers by slopes and leaves at both faces
 * into air whose state a schedule tells. The capital words are the document's terms.
 */
public final class LayerMoisture {
    public static final int NONE = -1;

    private static final int MOST_LAYERS = 16;
    private static final int MOST_BOARDS = 8;
    private static final int KINDS = 4;
    private static final int MOST_HOURS = 100;

    private final int layerCount;
    private final Board[] boards;
    private final Kind[] kinds;
    private final Air state;
    private final Ledger ledger;
    private final Text text;
    private final Plan plan;
    private int hoursPassed;

    public LayerMoisture(int layers, int boards) {
        layerCount = Math.max(1, Math.min(MOST_LAYERS, layers));
        kinds = new Kind[KINDS];
        for (int i = 0; i < kinds.length; i++) {
            kinds[i] = new Kind();
        }
        this.boards = new Board[Math.max(1, Math.min(MOST_BOARDS, boards))];
        for (int k = 0; k < this.boards.length; k++) {
            this.boards[k] = new Board(layerCount, kinds[0]);
        }
        state = new Air();
        ledger = new Ledger();
        text = new Text();
        plan = new Plan();
    }

    public void board(int k, double thick, double wet, int kind)
            throws ArrayIndexOutOfBoundsException, IllegalArgumentException {
        Board board = slotOf(k);
        Kind itsKind = kindOf(kind);
        requireWithin(thick, 1, 400);
        requireWithin(wet, 0, 3);
        board.lay(thick, wet, itsKind);
    }

    public void rate(int kind, double a, double b)
            throws ArrayIndexOutOfBoundsException, IllegalArgumentException {
        Kind changed = kindOf(kind);
        requireWithin(a, 0, 8);
        requireWithin(b, 0, 8);
        changed.a = a;
        changed.b = b;
    }

    public void air(double kelvin, double damp, double speed) throws IllegalArgumentException {
        requireWithin(kelvin, 250, 400);
        requireWithin(damp, 0, 1);
        requireWithin(speed, 0, 16);
        state.kelvin = kelvin;
        state.damp = damp;
        state.speed = speed;
    }

    public void vent(double share) throws IllegalArgumentException {
        requireWithin(share, 0, 1);
        state.ventShare = share;
    }

    public void soak(int board, int layer, double wet)
            throws ArrayIndexOutOfBoundsException, IllegalArgumentException, IllegalStateException {
        Board soaked = slotOf(board);
        requireLayer(layer);
        requireWithin(wet, 0, 3);
        requireThere(soaked);
        soaked.wetness[layer] = wet;
    }

    public boolean unit(int u) {
        return text.append(u);
    }

    public int schedule() {
        return plan.readFrom(text);
    }

    public int run(int hours) throws IllegalArgumentException {
        if (hours < 0 || hours > MOST_HOURS) {
            throw new IllegalArgumentException("hours are not 0 .. 100");
        }
        for (int h = 0; h < hours; h++) {
            if (isRefused()) {
                return -1 - hoursPassed;
            }
            passHour();
        }
        return hoursPassed;
    }

    public void limit(int board, double load)
            throws ArrayIndexOutOfBoundsException, IllegalArgumentException, IllegalStateException {
        Board limited = slotOf(board);
        // Asked this way round so that NaN is refused too.
        if (!(load >= 0)) {
            throw new IllegalArgumentException("the load is not 0 or more");
        }
        requireThere(limited);
        limited.setLimit(load);
    }

    public int check(int board) throws ArrayIndexOutOfBoundsException, IllegalStateException {
        return boardThere(board).keptHour;
    }

    public double wet(int board, int layer)
            throws ArrayIndexOutOfBoundsException, IllegalStateException {
        Board asked = slotOf(board);
        requireLayer(layer);
        requireThere(asked);
        return asked.wetness[layer];
    }

    public double mean(int board) throws ArrayIndexOutOfBoundsException, IllegalStateException {
        return boardThere(board).meanWetness();
    }

    public double stress(int board, int layer)
            throws ArrayIndexOutOfBoundsException, IllegalStateException {
        Board asked = slotOf(board);
        requireLayer(layer);
        requireThere(asked);
        return Board.shrinkage(asked.wetness[layer]) - asked.meanShrinkage();
    }

    public double balance() {
        return state.balanceNow();
    }

    public double told(int what) throws ArrayIndexOutOfBoundsException {
        switch (what) {
            case 0:
                return state.kelvin;
            case 1:
                return state.damp;
            case 2:
                return state.speed;
            case 3:
                return state.ventShare;
            case 4:
                return ledger.rest;
            default:
                throw new ArrayIndexOutOfBoundsException("what is not 0 .. 4");
        }
    }

    public long grams() {
        return ledger.gone;
    }

    public int count(int what) throws ArrayIndexOutOfBoundsException {
        switch (what) {
            case 0:
                return hoursPassed;
            case 1:
                return plan.done;
            case 2:
                return boardsThere();
            default:
                throw new ArrayIndexOutOfBoundsException("what is not 0 .. 2");
        }
    }

    private Board slotOf(int k) {
        if (k < 0 || k >= boards.length) {
            throw new ArrayIndexOutOfBoundsException("no such board");
        }
        return boards[k];
    }

    private Board boardThere(int k) {
        Board board = slotOf(k);
        requireThere(board);
        return board;
    }

    private Kind kindOf(int kind) {
        if (kind < 0 || kind >= kinds.length) {
            throw new ArrayIndexOutOfBoundsException("no such kind");
        }
        return kinds[kind];
    }

    private void requireLayer(int layer) {
        if (layer < 0 || layer >= layerCount) {
            throw new ArrayIndexOutOfBoundsException("no such layer");
        }
    }

    private static void requireThere(Board board) {
        if (!board.there) {
            throw new IllegalStateException("that board is not there");
        }
    }

    private static void requireWithin(double x, double least, double most) {
        // Asked this way round so that NaN is refused too.
        if (!(x >= least && x <= most)) {
            throw new IllegalArgumentException("a number is beyond its bounds");
        }
    }

    private int boardsThere() {
        int there = 0;
        for (int k = 0; k < boards.length; k++) {
            if (boards[k].there) {
                there++;
            }
        }
        return there;
    }

    private boolean isRefused() {
        for (int k = 0; k < boards.length; k++) {
            if (boards[k].there && boards[k].refuses(state.speed)) {
                return true;
            }
        }
        return false;
    }

    private void passHour() {
        followPlan();
        for (int k = 0; k < boards.length; k++) {
            if (boards[k].there) {
                // BALANCE is asked for each board, as the boards before it have changed DAMP.
                double water = boards[k].dry(state.speed, state.balanceNow());
                ledger.take(water);
                state.takeUp(water);
            }
        }
        hoursPassed++;
        for (int k = 0; k < boards.length; k++) {
            if (boards[k].there) {
                boards[k].watchLoad(hoursPassed);
            }
        }
    }

    private void followPlan() {
        if (plan.done < plan.steps && isStepDue(plan.done)) {
            state.kelvin = plan.kelvins[plan.done];
            state.damp = plan.damps[plan.done] / 100.0;
            plan.done++;
        }
    }

    private boolean isStepDue(int step) {
        if (plan.byHours[step]) {
            return hoursPassed >= plan.times[step];
        }
        return boardsThere() > 0 && !isAnyWetterThan(plan.times[step] / 100.0);
    }

    /** Whether the greatest of the mean wetnesses is above the bound. */
    private boolean isAnyWetterThan(double bound) {
        for (int k = 0; k < boards.length; k++) {
            if (boards[k].there && boards[k].meanWetness() > bound) {
                return true;
            }
        }
        return false;
    }

    /** How fast water moves in a kind of wood: A + B * wetness. */
    private static final class Kind {
        double a;
        double b;

        double speedAt(double wetness) {
            return a + b * wetness;
        }
    }

    private static final class Air {
        double kelvin = 293;
        double damp = 0.5;
        double speed = 1;
        double ventShare = 0;

        double balanceNow() {
            return 0.375 * damp * (1 - (kelvin - 273) / 256);
        }

        void takeUp(double water) {
            double damper = damp + water / 65536 * (1 - ventShare);
            if (damper < 0) {
                damper = 0;
            }
            damp = damper > 1 ? 1 : damper;
        }
    }

    /** REST and GONE: the water that has left, in whole grams and what is carried. */
    private static final class Ledger {
        double rest;
        long gone;

        void take(double water) {
            rest = rest + water;
            long whole = (long) rest;
            rest = rest - whole;
            gone = gone + whole;
        }
    }

    private static final class Board {
        final double[] wetness;
        Kind kind;
        boolean there;
        double depth;
        boolean limited;
        double loadLimit;
        int keptHour;

        Board(int layers, Kind firstKind) {
            wetness = new double[layers];
            // Not read before the board is laid; it is there so that the kind is never null.
            kind = firstKind;
        }

        void lay(double thick, double wet, Kind itsKind) {
            there = true;
            depth = thick / wetness.length;
            kind = itsKind;
            for (int i = 0; i < wetness.length; i++) {
                wetness[i] = wet;
            }
            limited = false;
            keptHour = NONE;
        }

        void setLimit(double load) {
            limited = true;
            loadLimit = load;
            keptHour = NONE;
        }

        double meanWetness() {
            double sum = 0;
            for (int i = 0; i < wetness.length; i++) {
                sum = sum + wetness[i];
            }
            return sum / wetness.length;
        }

        double greatestWetness() {
            double greatest = 0;
            for (int i = 0; i < wetness.length; i++) {
                if (wetness[i] > greatest) {
                    greatest = wetness[i];
                }
            }
            return greatest;
        }

        /** Beyond these speeds an hour's step would overshoot, so the hour is REFUSED. */
        boolean refuses(double speed) {
            return speed / (8 * depth) > 0.25
                    || kind.speedAt(greatestWetness()) / (depth * depth) > 0.25;
        }

        /** Moves the water of one hour; answers the WATER that left by both faces. */
        double dry(double speed, double balance) {
            int last = wetness.length - 1;
            double first = faceFlow(wetness[0], speed, balance);
            double other = faceFlow(wetness[last], speed, balance);
            // What a layer gains from the one before it; a layer's flow is reckoned before the
            // layer is changed, so every flow rests on the wetnesses that were.
            double gained = -first;
            for (int i = 0; i <= last; i++) {
                double lost = i < last ? slopeFlow(wetness[i], wetness[i + 1]) : other;
                wetness[i] = wetness[i] + gained - lost;
                gained = lost;
            }
            return (first + other) * depth * 64;
        }

        double faceFlow(double wet, double speed, double balance) {
            return speed * (wet - balance) / (8 * depth);
        }

        double slopeFlow(double here, double next) {
            return kind.speedAt((here + next) / 2) * (here - next) / (depth * depth);
        }

        static double shrinkage(double wet) {
            return 0.25 * (0.3125 - (wet < 0.3125 ? wet : 0.3125));
        }

        double meanShrinkage() {
            double sum = 0;
            for (int i = 0; i < wetness.length; i++) {
                sum = sum + shrinkage(wetness[i]);
            }
            return sum / wetness.length;
        }

        /** LOAD: the greatest size of the layers' stresses. */
        double greatestLoad() {
            double mean = meanShrinkage();
            double greatest = 0;
            for (int i = 0; i < wetness.length; i++) {
                double stress = shrinkage(wetness[i]) - mean;
                double size = stress < 0 ? -stress : stress;
                if (size > greatest) {
                    greatest = size;
                }
            }
            return greatest;
        }

        void watchLoad(int hour) {
            if (limited && keptHour == NONE && greatestLoad() > loadLimit) {
                keptHour = hour;
            }
        }
    }

    /** The characters that wait to become the schedule, and the place where they are read. */
    private static final class Text {
        static final int ROOM = 200;
        static final int MOST_DIGITS = 3;
        static final char END = 0;

        final char[] units = new char[ROOM];
        int length;
        int place;

        boolean append(int u) {
            if (length >= units.length || u < 32 || u > 126) {
                return false;
            }
            units[length] = (char) u;
            length++;
            return true;
        }

        void empty() {
            length = 0;
            place = 0;
        }

        boolean isAtEnd() {
            return place >= length;
        }

        char next() {
            return isAtEnd() ? END : units[place];
        }

        boolean isAtDigit() {
            return next() >= '0' && next() <= '9';
        }

        /** Passes over the mark if it stands here; if not, the place is the fault's. */
        boolean pass(char mark) {
            if (next() != mark) {
                return false;
            }
            place++;
            return true;
        }

        /** The number that stands here, or NONE; then the place is the fault's. */
        int readNumber(int least, int most) {
            int start = place;
            int value = 0;
            for (int k = 0; k < MOST_DIGITS && isAtDigit(); k++) {
                value = value * 10 + (next() - '0');
                place++;
            }
            if (place == start) {
                return NONE;
            }
            if (value < least || value > most) {
                place = start;
                return NONE;
            }
            return value;
        }
    }

    /** The SCHEDULE: its steps in rows, and how many of them were done. */
    private static final class Plan {
        static final int MOST_STEPS = 12;

        final boolean[] byHours = new boolean[MOST_STEPS];
        final int[] times = new int[MOST_STEPS];
        final int[] kelvins = new int[MOST_STEPS];
        final int[] damps = new int[MOST_STEPS];
        int steps;
        int done;

        /** How many steps the text has, or -1 less the place of its fault; the text is empty then. */
        int readFrom(Text text) {
            int read = readSteps(text);
            int answer = read == NONE ? -1 - text.place : read;
            steps = read == NONE ? 0 : read;
            done = 0;
            text.empty();
            return answer;
        }

        int readSteps(Text text) {
            for (int k = 0; k < MOST_STEPS; k++) {
                if (k > 0 && !text.pass(';')) {
                    return NONE;
                }
                if (!readStep(text, k)) {
                    return NONE;
                }
                if (text.isAtEnd()) {
                    return k + 1;
                }
            }
            return NONE;
        }

        boolean readStep(Text text, int k) {
            byHours[k] = text.next() == 'h';
            if (!text.pass(byHours[k] ? 'h' : 'w')) {
                return false;
            }
            times[k] = text.readNumber(0, 999);
            if (times[k] == NONE || !text.pass(':')) {
                return false;
            }
            kelvins[k] = text.readNumber(250, 400);
            if (kelvins[k] == NONE || !text.pass(',')) {
                return false;
            }
            damps[k] = text.readNumber(0, 100);
            return damps[k] != NONE;
        }
    }
}
