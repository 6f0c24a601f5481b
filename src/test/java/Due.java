import java.util.Objects;

/** Counts the answers that are not the ones that are due, and says which they are. */
final class Due {
    interface Call {
        Object answer();
    }

    private final String test;
    private int asked;
    private int wrong;
    private String sentence = "";
    private int askedBefore;

    Due(String test) {
        this.test = test;
    }

    /** From here on the answers are those that this sentence of the document asks for. */
    void sentence(String words) {
        closeSentence();
        sentence = words;
        askedBefore = asked;
    }

    /** A sentence without an answer of its own would be one without a test. */
    private void closeSentence() {
        if (!sentence.isEmpty() && asked == askedBefore) {
            tellWrong("nothing was asked");
        }
    }

    void is(String call, Object got, Object want) {
        asked++;
        if (!Objects.equals(got, want)) {
            tellWrong(call + " answered " + got + ", due is " + want);
        }
    }

    /** Doubles are compared by ==, so that 0.0 and -0.0 are alike. */
    void is(String call, double got, double want) {
        asked++;
        if (got != want) {
            tellWrong(call + " answered " + got + ", due is " + want);
        }
    }

    void isOutOfBounds(String call, Call made) {
        fails(call, made, ArrayIndexOutOfBoundsException.class);
    }

    void isWrongArgument(String call, Call made) {
        fails(call, made, IllegalArgumentException.class);
    }

    void isWrongState(String call, Call made) {
        fails(call, made, IllegalStateException.class);
    }

    private void fails(String call, Call made, Class<?> want) {
        is(call, thrownBy(made), want);
    }

    /** The class of what the call throws, null if nothing; what the machine throws is Error here. */
    static Class<?> thrownBy(Call made) {
        try {
            made.answer();
            return null;
        } catch (RuntimeException thrown) {
            return isMachineMade(thrown) ? Error.class : thrown.getClass();
        }
    }

    private static boolean isMachineMade(RuntimeException thrown) {
        String message = thrown.getMessage();
        return thrown instanceof IndexOutOfBoundsException && message != null
                && message.matches("(Index|arraycopy).*");
    }

    private void tellWrong(String line) {
        wrong++;
        System.out.println(test + ": " + (sentence.isEmpty() ? "" : "[" + sentence + "] ") + line);
    }

    void end() {
        closeSentence();
        System.out.println(test + ": " + asked + " answers, " + wrong + " of them not as due");
        if (wrong != 0 || asked == 0) {
            System.exit(1);
        }
    }
}
