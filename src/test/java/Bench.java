import java.util.NoSuchElementException;

/** The object that is tested, what is due of it, and the ways in which tests bring it to a state. */
abstract class Bench {
    static final Class<?> ARGUMENT = IllegalArgumentException.class;
    static final Class<?> STATE = IllegalStateException.class;
    static final Class<?> INDEX = IndexOutOfBoundsException.class;
    static final Class<?> ELEMENT = NoSuchElementException.class;
    static final Class<?> UNSUPPORTED = UnsupportedOperationException.class;
    static final Class<?> ARITHMETIC = ArithmeticException.class;
    static final int[] FAR = {Integer.MIN_VALUE, Integer.MAX_VALUE, -1, 1 << 30};

    /** A query or a change with one number. */
    interface OfOne {
        int of(int number);
    }

    /** A query or a change with two numbers. */
    interface OfTwo {
        int of(int one, int other);
    }

    final Check check = new Check();
    CometObservatory x = new CometObservatory();
    String where = "";

    void fresh() {
        x = new CometObservatory();
    }

    void due(String what, Object got, Object want) {
        check.due(where + what, got, want);
    }

    void throwing(Class<?> want, Check.Call call) {
        check.throwing(where + "what is thrown", want, call);
    }

    /** Each call must throw, and after all of them everything that can be asked is as before. */
    void refused(Class<?> want, Check.Call... calls) {
        String before = everything();
        for (Check.Call call : calls) {
            throwing(want, call);
        }
        due("everything after refused calls", everything(), before);
    }

    /** Lets one comet that burns out at once drop dust of 1 on each of the places. */
    void dustOn(int... places) {
        for (int place : places) {
            pile(place, 1);
        }
    }

    /** Lets one pass drop this dust; the comet is removed then, which brings coins if it is still there. */
    void pile(int place, int amount) {
        int delay = Math.floorMod(place - x.day() - 1, 12) + 1;
        int comet = x.addComet(60, delay, amount);
        x.passDays(delay);
        if (x.exists(comet)) {
            x.remove(comet);
        }
    }

    /** Brings coins: a comet of brightness 20 is added and removed again and again. */
    void earn(int times) {
        for (int i = 0; i < times; i++) {
            x.remove(x.addComet(2, 60, 20));
        }
    }

    void type(String text) {
        for (int i = 0; i < text.length(); i++) {
            x.append(text.charAt(i));
        }
    }

    int run(String text) {
        type(text);
        return x.run();
    }

    /** The text is no program, and its error position is as given. */
    void errorAt(String text, int position) {
        throwing(ARGUMENT, () -> run(text));
        due("errorPosition() of '" + text + "'", x.errorPosition(), position);
        due("a character after '" + text + "'", x.append('x'), 1);
        throwing(ARGUMENT, () -> x.run());
    }

    /** The text is a program of which this command fails, so that nothing has an effect. */
    void failsAt(String text, int command) {
        String before = state();
        throwing(UNSUPPORTED, () -> run(text));
        due("failedCommand() of '" + text + "'", x.failedCommand(), command);
        due("state after '" + text + "'", state(), before);
    }

    /** What is due: the gain, the start and the places of the best arc. */
    void bestArc(int gain, int start, int places) {
        due("bestGain()", x.bestGain(), gain);
        due("bestGainByArcs()", x.bestGainByArcs(), gain);
        due("bestStart()", x.bestStart(), start);
        due("bestPlaces()", x.bestPlaces(), places);
        due("the gain of the best arc", x.gain(start, places), gain);
    }

    String output(int length) {
        StringBuilder output = new StringBuilder();
        for (int i = 0; i < length; i++) {
            output.append(x.outputAt(i));
        }
        return output.toString();
    }

    /** The whole output line, however long it is. */
    String line() {
        StringBuilder line = new StringBuilder();
        while (line.length() < 1000 && signAt(line.length()) instanceof Character) {
            line.append(signAt(line.length()));
        }
        return line.toString();
    }

    private Object signAt(int index) {
        return Check.answerOf(() -> x.outputAt(index));
    }

    /** All that the queries tell of the state. */
    String state() {
        StringBuilder state = new StringBuilder();
        state.append(x.day()).append(' ').append(x.coins()).append(' ').append(x.rate());
        state.append(' ').append(x.passTotal()).append(' ').append(x.burntTotal());
        state.append(' ').append(x.dustByAccounts()).append(':');
        for (int place = 0; place < 12; place++) {
            state.append(' ').append(x.dust(place));
        }
        for (int position = 0; position < x.cometCount(); position++) {
            int comet = x.cometAt(position);
            state.append(" #").append(comet).append(' ').append(x.period(comet));
            state.append(' ').append(x.brightness(comet)).append(' ').append(x.nextPass(comet));
            state.append(' ').append(x.passesOf(comet));
        }
        return state.toString();
    }

    /** The state, and what is kept beside it and can be asked. */
    String everything() {
        return state() + " |" + Check.answerOf(() -> x.errorPosition()) + " " + Check.answerOf(() -> x.failedCommand())
                + " |" + line();
    }
}
