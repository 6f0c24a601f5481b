/** Short ways to bring an object into a state that a test needs. */
final class Boards {
    private Boards() {
    }

    static LayerMoisture twoLayers() {
        LayerMoisture x = new LayerMoisture(2, 1);
        x.board(0, 8, 1, 0);
        x.soak(0, 1, 0.5);
        x.rate(0, 1, 2);
        return x;
    }

    static int schedule(LayerMoisture x, String text) {
        write(x, text);
        return x.schedule();
    }

    static void write(LayerMoisture x, String text) {
        for (int i = 0; i < text.length(); i++) {
            if (!x.unit(text.charAt(i))) {
                throw new AssertionError("no room for " + text);
            }
        }
    }

    /** All that can be asked of an object, in one text. */
    static String stateOf(LayerMoisture x, int boards, int layers) {
        StringBuilder all = new StringBuilder();
        for (int what = 0; what < 5; what++) {
            all.append(x.told(what)).append(' ');
        }
        for (int what = 0; what < 3; what++) {
            all.append(x.count(what)).append(' ');
        }
        all.append(x.grams()).append(' ').append(x.balance());
        for (int k = 0; k < boards; k++) {
            all.append('\n').append(boardState(x, k, layers));
        }
        return all.toString();
    }

    private static String boardState(LayerMoisture x, int k, int layers) {
        if (Due.thrownBy(() -> x.check(k)) != null) {
            return "not there";
        }
        StringBuilder all = new StringBuilder();
        all.append(x.check(k)).append(' ').append(x.mean(k));
        for (int i = 0; i < layers; i++) {
            all.append(' ').append(x.wet(k, i)).append(' ').append(x.stress(k, i));
        }
        return all.toString();
    }
}
