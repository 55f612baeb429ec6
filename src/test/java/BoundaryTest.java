import java.io.IOException;
import java.lang.reflect.Method;
import java.nio.file.Path;

/** The sentences of promises 1 to 51 that name a boundary, each with cases of its own on both its sides. */
public final class BoundaryTest extends SentenceCases {
    private static final int PROMISES = 51;
    private static final String NO_COMET = "Throws `NoSuchElementException` if there is no such comet";
    private static final String NO_PLACE = "Throws `IndexOutOfBoundsException` if there is no such place";
    private static final String WRONG_DAYS = "Throws `IllegalArgumentException` if the number of days is out of range";
    private static final String WRONG_PLACES = "Throws `IllegalArgumentException` if the number of places is out of range";
    private static final String WRONG_PERIOD = "Throws `IllegalArgumentException` if the period is out of range";

    private BoundaryTest(Path document) throws IOException {
        super(document);
    }

    public static void main(String[] args) throws Exception {
        BoundaryTest test = new BoundaryTest(Path.of(args[0]));
        for (int number = 1; number <= PROMISES; number++) {
            test.section("Promise " + number);
            Method method = BoundaryTest.class.getDeclaredMethod("promise" + number);
            method.invoke(test);
        }
        test.endSection();
        test.check.end("BoundaryTest");
    }

    // ---- bounds that several promises share

    /** The numbers from least to most are taken, those beside them and far ones are refused. */
    private void range(String sentence, Class<?> thrown, int least, int most, Runnable before, OfOne call) {
        holds(sentence, () -> {
            before.run();
            refused(thrown, () -> call.of(least - 1), () -> call.of(most + 1));
            for (int far : FAR) {
                throwing(thrown, () -> call.of(far));
            }
        });
        for (int taken : new int[] {least, least + 1, most - 1, most}) {
            holds(sentence, () -> {
                before.run();
                due(taken + " is taken", Check.answerOf(() -> call.of(taken)) instanceof Integer, true);
            });
        }
    }

    private void nothing() {
    }

    private void oneComet() {
        x.addComet(6, 4, 10);
    }

    /** No comet has such an id: not yet, not any more, or never. */
    private void noComet(OfOne call) {
        holds(NO_COMET, () -> refused(ELEMENT, () -> call.of(0)));
        holds(NO_COMET, () -> {
            oneComet();
            refused(ELEMENT, () -> call.of(1), () -> call.of(-1));
            for (int far : FAR) {
                throwing(ELEMENT, () -> call.of(far));
            }
        });
        holds(NO_COMET, () -> {
            oneComet();
            oneComet();
            x.remove(0);
            refused(ELEMENT, () -> call.of(0));
            due("the comet that is left", Check.answerOf(() -> call.of(1)) instanceof Integer, true);
        });
        holds(NO_COMET, () -> {
            oneComet();
            x.addComet(2, 1, 1);
            x.passDays(1);
            refused(ELEMENT, () -> call.of(1));
            due("the comet that is left", Check.answerOf(() -> call.of(0)) instanceof Integer, true);
        });
        holds(NO_COMET, () -> {
            oneComet();
            x.undo();
            refused(ELEMENT, () -> call.of(0));
        });
    }

    // ---- changes

    void promise1() {
        holds("Creates an observatory without comets, on day 0, with a ring without dust.", () -> {
            due("cometCount()", x.cometCount(), 0);
            due("exists(0)", x.exists(0), false);
            due("day()", x.day(), 0);
            for (int place = 0; place < 12; place++) {
                due("dust(" + place + ")", x.dust(place), 0);
            }
            due("dustTotal()", x.dustTotal(), 0);
            due("dustByAccounts()", x.dustByAccounts(), 0);
            due("passTotal()", x.passTotal(), 0);
            due("burntTotal()", x.burntTotal(), 0);
            refused(INDEX, () -> x.cometAt(0), () -> x.cometAtRank(0), () -> x.outputAt(0));
            refused(STATE, () -> x.undo());
        });
        holds("Creates an observatory without comets, on day 0, with a ring without dust.", () -> {
            CometObservatory other = x;
            fresh();
            x.addComet(2, 1, 9);
            x.save();
            x.passDays(5);
            due("comets of another object", other.cometCount(), 0);
            due("dust of another object", other.dustTotal(), 0);
            due("day of another object", other.day(), 0);
            due("undo() of another object", Check.answerOf(() -> other.undo()), "IllegalStateException");
        });
    }

    void promise2() {
        range("`period`: the period, 2 to 60", ARGUMENT, 2, 60, this::nothing, period -> x.addComet(period, 1, 1));
        String delays = "`delay`: the number of days from the present day to its next pass, 1 to 60";
        range(delays, ARGUMENT, 1, 60, this::nothing, delay -> x.addComet(2, delay, 1));
        holds(delays, () -> {
            x.addComet(60, 1, 9);
            x.addComet(60, 60, 9);
            due("nextPass(0)", x.nextPass(0), 1);
            due("nextPass(1)", x.nextPass(1), 60);
            x.passDays(60);
            x.addComet(60, 1, 9);
            x.addComet(60, 60, 9);
            due("nextPass(2)", x.nextPass(2), 61);
            due("nextPass(3)", x.nextPass(3), 120);
        });
        range("`brightness`: the brightness, 1 to 20", ARGUMENT, 1, 20, this::nothing,
                brightness -> x.addComet(2, 1, brightness));
        String wrong = "Throws `IllegalArgumentException` if the period, the delay or the brightness is out of range";
        for (int[] of : new int[][] {{1, 1, 1}, {61, 60, 20}, {2, 0, 1}, {60, 61, 20}, {2, 1, 0}, {60, 60, 21},
            {0, 0, 0}, {-2, -1, -1}}) {
            holds(wrong, () -> refused(ARGUMENT, () -> x.addComet(of[0], of[1], of[2])));
        }
        holds(wrong, () -> {
            due("all at their least", x.addComet(2, 1, 1), 0);
            due("all at their most", x.addComet(60, 60, 20), 1);
        });
        holds("Throws `IllegalStateException` if there are 6 comets", () -> {
            for (int i = 0; i < 5; i++) {
                oneComet();
            }
            due("a sixth comet", x.addComet(2, 1, 1), 5);
            refused(STATE, () -> x.addComet(2, 1, 1));
            x.remove(3);
            due("a sixth comet again", x.addComet(2, 1, 1), 6);
            refused(STATE, () -> x.addComet(60, 60, 20));
        });
    }

    void promise3() {
        noComet(comet -> x.remove(comet));
        holds("Removes a comet, which brings as many coins as its brightness.", () -> {
            x.addComet(2, 60, 1);
            x.addComet(2, 60, 20);
            x.addComet(2, 1, 2);
            due("remove(0), the least bright", x.remove(0), 21);
            due("remove(1), the brightest", x.remove(1), 41);
            x.passDays(1);
            due("remove(2), once passed", x.remove(2), 42);
            due("cometCount()", x.cometCount(), 0);
            due("burntTotal()", x.burntTotal(), 0);
        });
        holds(NO_COMET, () -> {
            for (int i = 0; i < 6; i++) {
                x.addComet(2 + i, 1 + i, 1 + i);
            }
            x.remove(5);
            x.remove(0);
            x.remove(2);
            due("state", state(), "0 30 2 0 0 0: 0 0 0 0 0 0 0 0 0 0 0 0 #1 3 2 2 0 #3 5 4 4 0 #4 6 5 5 0");
            refused(ELEMENT, () -> x.remove(5), () -> x.remove(0), () -> x.remove(2), () -> x.remove(6));
        });
    }

    void promise4() {
        noComet(comet -> x.setPeriod(comet, 2));
        range("`period`: the new period, 2 to 60", ARGUMENT, 2, 60, this::oneComet, period -> x.setPeriod(0, period));
        holds(WRONG_PERIOD, () -> {
            oneComet();
            refused(ARGUMENT, () -> x.setPeriod(0, 1), () -> x.setPeriod(0, 61), () -> x.setPeriod(0, 0));
            due("setPeriod(0, 2)", x.setPeriod(0, 2), 6);
            due("setPeriod(0, 60)", x.setPeriod(0, 60), 2);
            due("period(0)", x.period(0), 60);
        });
        holds("The day of its next pass does not change.", () -> {
            oneComet();
            x.setPeriod(0, 60);
            due("nextPass(0)", x.nextPass(0), 4);
            x.passDays(3);
            x.setPeriod(0, 2);
            due("nextPass(0) a day before", x.nextPass(0), 4);
            due("passDays(1)", x.passDays(1), 1);
            due("nextPass(0)", x.nextPass(0), 6);
            x.setPeriod(0, 60);
            due("nextPass(0) after a pass", x.nextPass(0), 6);
        });
        holds("Returns the previous period.", () -> {
            oneComet();
            due("setPeriod(0, 6)", x.setPeriod(0, 6), 6);
            due("setPeriod(0, 7)", x.setPeriod(0, 7), 6);
            throwing(ARGUMENT, () -> x.setPeriod(0, 61));
            due("setPeriod(0, 8)", x.setPeriod(0, 8), 7);
        });
    }

    void promise5() {
        noComet(comet -> x.brighten(comet, 1));
        holds("Makes a comet brighter, which costs 3 coins for each unit.", () -> {
            x.addComet(6, 4, 1);
            due("brighten(0, 1)", x.brighten(0, 1), 2);
            due("coins()", x.coins(), 17);
            due("brighten(0, 5)", x.brighten(0, 5), 7);
            due("coins()", x.coins(), 2);
        });
        range("`amount`: by how much its brightness increases, 1 to 19", ARGUMENT, 1, 19, () -> {
            x.addComet(6, 4, 1);
            earn(2);
        }, amount -> x.brighten(0, amount));
        holds("Throws `IllegalArgumentException` if the amount is out of range", () -> {
            x.addComet(6, 4, 1);
            earn(2);
            refused(ARGUMENT, () -> x.brighten(0, 0), () -> x.brighten(0, 20), () -> x.brighten(0, -19));
            due("brighten(0, 19)", x.brighten(0, 19), 20);
        });
        holds("Throws `IllegalStateException` if the brightness would be greater than 20", () -> {
            x.addComet(6, 4, 15);
            refused(STATE, () -> x.brighten(0, 6), () -> x.brighten(0, 19));
            due("up to 20", x.brighten(0, 5), 20);
            refused(STATE, () -> x.brighten(0, 1));
        });
        String few = "Throws `UnsupportedOperationException` if there are too few coins";
        holds(few, () -> {
            x.addComet(6, 4, 1);
            refused(UNSUPPORTED, () -> x.brighten(0, 7));
            x.remove(x.addComet(6, 4, 1));
            due("the last of 21 coins", x.brighten(0, 7), 8);
            due("coins()", x.coins(), 0);
            refused(UNSUPPORTED, () -> x.brighten(0, 1));
            x.remove(x.addComet(6, 4, 2));
            refused(UNSUPPORTED, () -> x.brighten(0, 1));
            x.remove(x.addComet(6, 4, 1));
            due("the last of 3 coins", x.brighten(0, 1), 9);
            due("coins()", x.coins(), 0);
        });
    }

    void promise6() {
        range("`days`: the number of days, 1 to 60", ARGUMENT, 1, 60, this::oneComet, days -> x.passDays(days));
        holds(WRONG_DAYS, () -> {
            x.addComet(2, 1, 3);
            refused(ARGUMENT, () -> x.passDays(0), () -> x.passDays(61));
            due("passDays(1)", x.passDays(1), 1);
            due("day()", x.day(), 1);
            due("passDays(60)", x.passDays(60), 2);
            due("day()", x.day(), 61);
            due("passDays(60) without comets", x.passDays(60), 0);
            due("day()", x.day(), 121);
        });
        holds("Returns the number of passes in these days.", () -> {
            x.addComet(60, 60, 9);
            x.addComet(59, 1, 9);
            due("the first and the last day count", x.passDays(60), 3);
            due("the day before does not", x.passDays(58), 0);
            due("passDays(2)", x.passDays(2), 2);
        });
        holds("Returns the number of passes in these days.", () -> {
            for (int i = 0; i < 6; i++) {
                x.addComet(2, 1, 20);
            }
            due("as many as there can be", x.passDays(39), 120);
            due("cometCount()", x.cometCount(), 0);
            due("burntTotal()", x.burntTotal(), 6);
        });
    }

    void promise7() {
        range("`start`: the place at which the arc starts, 0 to 11", INDEX, 0, 11, this::nothing,
                start -> x.clean(start, 1));
        range("`places`: the number of places, 1 to 12", ARGUMENT, 1, 12, () -> x.setRate(0),
                places -> x.clean(11, places));
        holds(NO_PLACE, () -> {
            refused(INDEX, () -> x.clean(-1, 1), () -> x.clean(12, 1), () -> x.clean(12, 0));
            due("clean(0, 1)", x.clean(0, 1), 0);
            due("clean(11, 1)", x.clean(11, 1), 0);
        });
        holds(WRONG_PLACES, () -> {
            x.setRate(1);
            pile(11, 3);
            pile(0, 4);
            pile(10, 5);
            refused(ARGUMENT, () -> x.clean(11, 0), () -> x.clean(11, 13), () -> x.clean(0, -1));
            due("clean(11, 1)", x.clean(11, 1), 3);
            due("clean(11, 12)", x.clean(11, 12), 9);
            due("dustTotal()", x.dustTotal(), 0);
        });
        holds("Returns the amount of dust that is removed.", () -> {
            for (int place = 0; place < 12; place++) {
                pile(place, place + 1);
            }
            x.setRate(0);
            due("around place 0", x.clean(11, 2), 12 + 1);
            due("what is removed once is gone", x.clean(11, 2), 0);
            due("clean(9, 6)", x.clean(9, 6), 10 + 11 + 2 + 3);
            due("dust(3)", x.dust(3), 4);
            due("dust(8)", x.dust(8), 9);
            due("all the others", x.clean(3, 12), 4 + 5 + 6 + 7 + 8 + 9);
        });
        holds("Throws `IllegalStateException` if the number of coins would be less than 0 after the call", () -> {
            x.setRate(9);
            refused(STATE, () -> x.clean(0, 3));
            due("clean(0, 2)", x.clean(0, 2), 0);
            due("coins()", x.coins(), 2);
            x.setRate(1);
            refused(STATE, () -> x.clean(0, 3), () -> x.clean(5, 12));
            due("the last coins", x.clean(0, 2), 0);
            due("coins()", x.coins(), 0);
            refused(STATE, () -> x.clean(0, 1));
            dustOn(5, 6);
            refused(STATE, () -> x.clean(5, 3), () -> x.clean(4, 3));
            due("the dust pays for it", x.clean(5, 2), 2);
            due("coins()", x.coins(), 0);
            x.setRate(0);
            due("without costs", x.clean(0, 12), 0);
        });
    }

    void promise8() {
        range("`rate`: the new rate, 0 to 9", ARGUMENT, 0, 9, this::nothing, rate -> x.setRate(rate));
        holds("Throws `IllegalArgumentException` if the rate is out of range", () -> {
            refused(ARGUMENT, () -> x.setRate(-1), () -> x.setRate(10));
            x.setRate(9);
            due("rate()", x.rate(), 9);
            x.setRate(0);
            due("rate()", x.rate(), 0);
        });
        holds("Returns the previous rate.", () -> {
            due("setRate(9)", x.setRate(9), 2);
            due("setRate(9)", x.setRate(9), 9);
            throwing(ARGUMENT, () -> x.setRate(10));
            due("setRate(0)", x.setRate(0), 9);
            due("setRate(1)", x.setRate(1), 0);
        });
    }

    // ---- queries about comets

    void promise9() {
        holds("Returns the number, 0 to 6.", () -> {
            for (int count = 0; count < 6; count++) {
                due("cometCount()", x.cometCount(), count);
                x.addComet(2, 60 - count, 1);
            }
            due("cometCount()", x.cometCount(), 6);
            throwing(STATE, () -> x.addComet(2, 1, 1));
            due("cometCount()", x.cometCount(), 6);
            x.remove(0);
            due("cometCount()", x.cometCount(), 5);
            x.passDays(59);
            due("cometCount()", x.cometCount(), 0);
        });
    }

    /** Calls by position, or by rank: from 0 to the number of comets less 1. */
    private void positions(String from, String wrong, OfOne call) {
        holds(from, () -> {
            oneComet();
            oneComet();
            due("at 0", call.of(0), 0);
            due("at 1", call.of(1), 1);
            x.remove(0);
            due("at 0 after remove", call.of(0), 1);
        });
        holds(wrong, () -> refused(INDEX, () -> call.of(0), () -> call.of(-1)));
        holds(wrong, () -> {
            for (int count = 1; count <= 6; count++) {
                int beyond = count;
                oneComet();
                due("the last one", call.of(count - 1), count - 1);
                throwing(INDEX, () -> call.of(beyond));
            }
            refused(INDEX, () -> call.of(-1), () -> call.of(6));
            for (int far : FAR) {
                throwing(INDEX, () -> call.of(far));
            }
        });
        holds(wrong, () -> {
            oneComet();
            x.addComet(2, 1, 1);
            x.passDays(1);
            refused(INDEX, () -> call.of(1));
            x.remove(0);
            refused(INDEX, () -> call.of(0));
        });
    }

    void promise10() {
        positions("`position`: the position, from 0",
                "Throws `IndexOutOfBoundsException` if the position is negative or not less than the number of comets",
                position -> x.cometAt(position));
        holds("Returns a comet by its position in ascending order of ids.", () -> {
            x.addComet(2, 60, 1);
            x.addComet(3, 1, 20);
            x.addComet(4, 30, 10);
            x.remove(0);
            x.addComet(5, 2, 20);
            due("cometAt(0)", x.cometAt(0), 1);
            due("cometAt(1)", x.cometAt(1), 2);
            due("cometAt(2)", x.cometAt(2), 3);
        });
    }

    void promise11() {
        holds("Returns true if there is such a comet.", () -> {
            due("exists(0) before", x.exists(0), false);
            x.addComet(2, 2, 1);
            due("exists(0)", x.exists(0), true);
            due("exists(1)", x.exists(1), false);
            x.passDays(1);
            due("exists(0) a day before", x.exists(0), true);
            x.passDays(1);
            due("exists(0) once burnt out", x.exists(0), false);
            x.undo();
            due("exists(0) after undo", x.exists(0), true);
            x.remove(0);
            due("exists(0) after remove", x.exists(0), false);
            for (int far : FAR) {
                due("exists(far)", x.exists(far), false);
            }
        });
    }

    void promise12() {
        noComet(comet -> x.period(comet));
        holds("Returns the period.", () -> {
            x.addComet(2, 1, 1);
            x.addComet(60, 1, 1);
            due("the least period", x.period(0), 2);
            due("the greatest period", x.period(1), 60);
        });
    }

    void promise13() {
        noComet(comet -> x.brightness(comet));
        holds("Returns the brightness.", () -> {
            x.addComet(2, 60, 1);
            x.addComet(2, 1, 20);
            due("the least brightness", x.brightness(0), 1);
            due("the greatest brightness", x.brightness(1), 20);
            x.passDays(1);
            due("brightness after a pass", x.brightness(1), 19);
        });
    }

    void promise14() {
        noComet(comet -> x.tail(comet));
        holds("Returns the tail, 1 to 5.", () -> {
            x.addComet(2, 2, 1);
            x.addComet(2, 2, 4);
            x.addComet(2, 2, 5);
            x.addComet(2, 2, 19);
            x.addComet(2, 1, 20);
            due("tail at 1", x.tail(0), 1);
            due("tail at 4", x.tail(1), 1);
            due("tail at 5", x.tail(2), 2);
            due("tail at 19", x.tail(3), 4);
            due("tail at 20", x.tail(4), 5);
            x.passDays(1);
            due("tail at 19", x.tail(4), 4);
            x.brighten(4, 1);
            due("tail at 20", x.tail(4), 5);
        });
    }

    void promise15() {
        noComet(comet -> x.nextPass(comet));
        holds("Returns the day.", () -> {
            x.addComet(2, 1, 9);
            x.addComet(60, 60, 9);
            due("tomorrow", x.nextPass(0), 1);
            due("as late as can be", x.nextPass(1), 60);
            x.passDays(60);
            due("gone with the last pass", x.exists(0), false);
            due("on the day of a pass", x.nextPass(1), 120);
        });
    }

    void promise16() {
        noComet(comet -> x.passesOf(comet));
        holds("Returns the number of passes.", () -> {
            x.addComet(2, 2, 20);
            due("never", x.passesOf(0), 0);
            x.passDays(1);
            due("a day before", x.passesOf(0), 0);
            x.passDays(1);
            due("on the day", x.passesOf(0), 1);
            x.passDays(36);
            due("all but the last one", x.passesOf(0), 19);
            x.undo();
            due("undone", x.passesOf(0), 1);
            x.remove(0);
            due("a new comet", x.passesOf(x.addComet(2, 1, 1)), 0);
        });
    }

    void promise17() {
        noComet(comet -> x.lastPass(comet));
        String last = "Returns the day of the last pass of a comet, after which it is burnt out, if only days go by.";
        holds(last, () -> {
            x.addComet(60, 60, 20);
            due("the latest", x.lastPass(0), 60 + 19 * 60);
            x.addComet(60, 1, 1);
            due("the next pass is the last", x.lastPass(1), 1);
            x.addComet(2, 1, 2);
            due("the one after the next", x.lastPass(2), 3);
            x.passDays(1);
            due("exists(1)", x.exists(1), false);
            due("lastPass(2)", x.lastPass(2), 3);
            due("lastPass(0)", x.lastPass(0), 1200);
        });
        holds(last, () -> {
            x.addComet(7, 5, 8);
            int day = x.lastPass(0);
            due("lastPass(0)", day, 5 + 7 * 7);
            x.passDays(day - 1);
            due("exists(0) a day before", x.exists(0), true);
            due("brightness(0) a day before", x.brightness(0), 1);
            x.passDays(1);
            due("exists(0)", x.exists(0), false);
        });
    }

    void promise18() {
        positions("`rank`: the rank, from 0",
                "Throws `IndexOutOfBoundsException` if the rank is negative or not less than the number of comets",
                rank -> x.cometAtRank(rank));
        String order = "Comets are ranked by brightness in descending order, then by the day of the next pass in "
                + "ascending order, then by id in ascending order.";
        holds(order, () -> {
            x.addComet(2, 60, 20);
            x.addComet(2, 1, 19);
            x.addComet(2, 60, 1);
            x.addComet(2, 59, 20);
            x.addComet(60, 59, 20);
            x.addComet(3, 60, 20);
            ranked(3, 4, 0, 5, 1, 2);
            x.passDays(59);
            ranked(0, 5, 3, 4, 2);
            x.brighten(3, 1);
            ranked(0, 5, 3, 4, 2);
            x.passDays(1);
            ranked(3, 0, 5, 4);
        });
        holds(order, () -> {
            for (int i = 0; i < 6; i++) {
                oneComet();
            }
            ranked(0, 1, 2, 3, 4, 5);
        });
    }

    private void ranked(int... comets) {
        due("cometCount()", x.cometCount(), comets.length);
        for (int rank = 0; rank < comets.length; rank++) {
            due("cometAtRank(" + rank + ")", x.cometAtRank(rank), comets[rank]);
        }
    }

    void promise19() {
        String days = "`days`: the number of days, 0 to 60";
        range(days, ARGUMENT, 0, 60, this::oneComet, number -> x.passesIn(number));
        holds(days, () -> {
            x.addComet(2, 1, 20);
            x.addComet(60, 60, 20);
            due("in no days", x.passesIn(0), 0);
            due("in one day", x.passesIn(1), 1);
            due("in 2 days", x.passesIn(2), 1);
            due("in 3 days", x.passesIn(3), 2);
            due("in 59 days", x.passesIn(59), 20);
            due("in 60 days", x.passesIn(60), 21);
        });
        holds(WRONG_DAYS, () -> {
            refused(ARGUMENT, () -> x.passesIn(-1), () -> x.passesIn(61));
            due("no comets", x.passesIn(60), 0);
        });
        holds("Returns the number of passes in some days, if only days go by.", () -> {
            x.addComet(2, 1, 3);
            x.addComet(3, 2, 3);
            x.passDays(1);
            for (int ahead = 1; ahead <= 12; ahead++) {
                int foreseen = x.passesIn(ahead);
                due("passesIn and passDays of " + ahead, x.passDays(ahead), foreseen);
                x.undo();
            }
            due("the pass of the present day is past", x.passesIn(0), 0);
            due("burnt out before", x.passesIn(60), 5);
            x.remove(0);
            due("a removed comet does not pass", x.passesIn(60), 3);
        });
        holds("Returns the number of passes in some days, if only days go by.", () -> {
            for (int i = 0; i < 6; i++) {
                x.addComet(2, 22, 20);
            }
            due("as many as there can be", x.passesIn(60), 120);
            due("all but the last ones", x.passesIn(59), 114);
            due("the first ones", x.passesIn(22), 6);
            due("none", x.passesIn(21), 0);
        });
    }

    // ---- queries about meetings

    private void meetings(OfTwo call) {
        String none = "Throws `NoSuchElementException` if there is no comet with one of these ids";
        holds(none, () -> {
            refused(ELEMENT, () -> call.of(0, 1), () -> call.of(0, 0));
            x.addComet(2, 1, 1);
            x.addComet(2, 3, 1);
            refused(ELEMENT, () -> call.of(0, 2), () -> call.of(2, 0), () -> call.of(-1, 1), () -> call.of(1, -1),
                    () -> call.of(2, 2));
            for (int far : FAR) {
                throwing(ELEMENT, () -> call.of(far, 0));
                throwing(ELEMENT, () -> call.of(0, far));
            }
            due("both are there", call.of(0, 1), 3);
            x.passDays(1);
            refused(ELEMENT, () -> call.of(0, 1), () -> call.of(1, 0));
        });
        holds("Throws `IllegalArgumentException` if both ids are the same", () -> {
            x.addComet(2, 1, 1);
            x.addComet(2, 1, 1);
            refused(ARGUMENT, () -> call.of(0, 0), () -> call.of(1, 1));
            due("the same numbers, but two ids", call.of(0, 1), 1);
        });
        String never = "Throws `UnsupportedOperationException` if they never meet";
        holds(never, () -> {
            x.addComet(2, 1, 20);
            x.addComet(2, 2, 20);
            x.addComet(60, 59, 20);
            x.addComet(60, 60, 20);
            x.addComet(30, 60, 20);
            refused(UNSUPPORTED, () -> call.of(0, 1), () -> call.of(1, 0), () -> call.of(2, 3), () -> call.of(0, 3),
                    () -> call.of(3, 0), () -> call.of(1, 2), () -> call.of(4, 2), () -> call.of(2, 4));
            due("meeting of 0 and 2", call.of(0, 2), 59);
            due("meeting of 1 and 3", call.of(1, 3), 60);
            due("meeting of 4 and 3", call.of(4, 3), 60);
            x.setPeriod(1, 3);
            due("meeting of 0 and 1 with a changed period", call.of(0, 1), 5);
        });
        lateMeetings(call);
    }

    private void lateMeetings(OfTwo call) {
        String never = "Throws `UnsupportedOperationException` if they never meet";
        holds(never, () -> {
            x.addComet(60, 2, 1);
            x.addComet(59, 1, 1);
            x.addComet(59, 2, 1);
            x.addComet(60, 1, 1);
            due("the latest meeting", call.of(0, 1), 2 + 58 * 60);
            due("the latest meeting", call.of(1, 0), 2 + 58 * 60);
            due("the earliest meeting", call.of(0, 2), 2);
            due("meeting of 3 and 2", call.of(3, 2), 1 + 60);
            refused(UNSUPPORTED, () -> call.of(0, 3), () -> call.of(1, 2));
        });
        holds(never, () -> {
            x.addComet(2, 1, 20);
            x.addComet(60, 60, 20);
            refused(UNSUPPORTED, () -> call.of(0, 1));
            x.passDays(1);
            refused(UNSUPPORTED, () -> call.of(0, 1));
            x.setPeriod(0, 57);
            due("meeting on the day of the later next pass", call.of(0, 1), 60);
            due("meeting on the day of the later next pass", call.of(1, 0), 60);
        });
    }

    private void afterThePresentDay(String sentence, OfTwo call) {
        holds(sentence, () -> {
            x.addComet(2, 1, 20);
            x.addComet(3, 1, 20);
            due("tomorrow", call.of(0, 1), 1);
            x.passDays(1);
            due("not on the present day", call.of(0, 1), 7);
            x.passDays(5);
            due("tomorrow", call.of(1, 0), 7);
            x.passDays(1);
            due("not on the present day", call.of(1, 0), 13);
        });
        holds(sentence, () -> {
            for (int one = 2; one <= 8; one++) {
                for (int delay = 1; delay <= 12; delay++) {
                    fresh();
                    x.addComet(one, 7, 1);
                    x.addComet(60, delay, 1);
                    int day = delay;
                    while (day < 1000 && (day < 7 || (day - 7) % one != 0)) {
                        day += 60;
                    }
                    Object want = day < 1000 ? (Object) day : UNSUPPORTED.getSimpleName();
                    due("period " + one + ", delay " + delay, Check.answerOf(() -> call.of(0, 1)), want);
                    due("period " + one + ", delay " + delay, Check.answerOf(() -> call.of(1, 0)), want);
                }
            }
        });
    }

    void promise20() {
        OfTwo call = (one, other) -> x.nextMeeting(one, other);
        meetings(call);
        afterThePresentDay("Returns the next day, after the present one, on which two comets meet, found by looking at "
                + "the passes of both one after the other.", call);
    }

    void promise21() {
        OfTwo call = (one, other) -> x.nextMeetingByRemainders(one, other);
        meetings(call);
        afterThePresentDay("Returns the same day, computed from the remainders of the days of the next passes with the "
                + "extended algorithm of Euclid.", call);
    }

    void promise22() {
        holds("Returns the number of days after which the passes of all comets would recur, if none were burnt out: "
                + "the least common multiple of all periods.", () -> {
            x.addComet(2, 1, 1);
            due("of one comet", x.alignment(), 2L);
            x.addComet(2, 1, 1);
            due("of equal periods", x.alignment(), 2L);
            x.addComet(60, 1, 1);
            due("of a divisor and a multiple", x.alignment(), 60L);
            x.addComet(48, 1, 1);
            due("of periods with a common divisor", x.alignment(), 240L);
            x.addComet(59, 1, 1);
            x.addComet(53, 1, 1);
            due("of 2, 2, 60, 48, 59 and 53", x.alignment(), 240L * 59 * 53);
            x.setPeriod(0, 49);
            x.setPeriod(1, 57);
            x.setPeriod(3, 47);
            due("beyond an int", x.alignment(), 60L * 59 * 57 / 3 * 53 * 49 * 47);
        });
        holds("Returns the number of days.", () -> {
            x.addComet(3, 1, 1);
            due("of an odd period", x.alignment(), 3L);
            x.addComet(59, 1, 1);
            due("of odd periods", x.alignment(), 3L * 59);
            x.remove(0);
            due("a removed comet does not count", x.alignment(), 59L);
        });
        holds("Throws `ArithmeticException` if there are no comets", () -> {
            refused(ARITHMETIC, () -> x.alignment());
            x.addComet(60, 1, 1);
            due("of one comet", x.alignment(), 60L);
            x.passDays(1);
            refused(ARITHMETIC, () -> x.alignment());
            x.remove(x.addComet(60, 1, 1));
            refused(ARITHMETIC, () -> x.alignment());
        });
    }

    // ---- queries about the telescope

    private void planDays(OfOne call) {
        String days = "`days`: the number of days, 0 to 60";
        range(days, ARGUMENT, 0, 60, this::oneComet, call);
        holds(days, () -> {
            x.addComet(60, 60, 1);
            due("no days", call.of(0), 0);
            due("59 days", call.of(59), 0);
            due("60 days", call.of(60), 1);
            x.passDays(59);
            due("no days", call.of(0), 0);
            due("one day", call.of(1), 1);
        });
        holds(WRONG_DAYS, () -> {
            refused(ARGUMENT, () -> call.of(-1), () -> call.of(61));
            due("without comets", call.of(60), 0);
            x.addComet(2, 1, 20);
            refused(ARGUMENT, () -> call.of(-1), () -> call.of(61));
        });
    }

    private void worths(OfOne call) {
        planDays(call);
        String worth = "Returns the worth, 0 if nothing can be followed.";
        holds(worth, () -> {
            due("without comets", call.of(60), 0);
            x.addComet(2, 1, 20);
            due("in no days", call.of(0), 0);
            due("in too few days", call.of(2), 0);
            due("the second pass ends before the first one", call.of(4), 0);
            due("in just enough days", call.of(5), 20);
            x.addComet(60, 60, 5);
            due("the last day is one too few", call.of(60), 121);
        });
        holds(worth, () -> {
            x.addComet(60, 56, 20);
            due("in too few days", call.of(59), 0);
            due("in just enough days", call.of(60), 20);
            x.passDays(55);
            due("in too few days", call.of(4), 0);
            due("in just enough days", call.of(5), 20);
            x.passDays(1);
            due("the pass of the present day is past", call.of(59), 0);
        });
        holds(worth, () -> {
            x.addComet(60, 1, 20);
            x.addComet(60, 5, 5);
            due("both share a day", call.of(60), 20);
            x.addComet(60, 6, 5);
            due("one begins when the other has ended", call.of(60), 25);
            x.addComet(60, 7, 4);
            due("a third one shares a day", call.of(60), 25);
            x.addComet(60, 8, 4);
            due("a fourth one begins then", call.of(60), 29);
        });
        holds(worth, () -> {
            x.addComet(60, 1, 1);
            x.addComet(60, 1, 3);
            x.addComet(60, 1, 2);
            due("of three on one day the brightest", call.of(1), 3);
        });
        mostPasses(worth, call, true);
    }

    /** Six comets as they pass most often, and in other ways, against the plain reference. */
    private void mostPasses(String sentence, OfOne call, boolean isWorth) {
        for (int[] kind : new int[][] {{2, 0, 20, 0}, {2, 1, 20, 3}, {3, 1, 19, 1}, {5, 2, 20, 2}, {7, 3, 14, 0}}) {
            holds(sentence, () -> {
                Reference reference = new Reference();
                for (int i = 0; i < 6; i++) {
                    x.addComet(kind[0] + i * kind[1], 1 + i * kind[1], kind[2] - i * kind[3]);
                    reference.call("comet", kind[0] + i * kind[1], 1 + i * kind[1], kind[2] - i * kind[3]);
                }
                for (int days = 0; days <= 60; days++) {
                    int want = isWorth ? reference.bestWorth(days) : reference.fewestPasses(days);
                    due("six comets, " + days + " days", call.of(days), want);
                }
            });
        }
    }

    void promise23() {
        worths(days -> x.bestWorth(days));
    }

    void promise24() {
        worths(days -> x.bestWorthByDays(days));
    }

    void promise25() {
        planDays(days -> x.fewestPasses(days));
        String least = "Returns the least number of passes of a plan with the greatest worth.";
        holds(least, () -> {
            due("an empty plan", x.fewestPasses(60), 0);
            x.addComet(60, 2, 4);
            due("an empty plan", x.fewestPasses(1), 0);
            due("one pass", x.fewestPasses(2), 1);
        });
        holds(least, () -> {
            x.addComet(60, 1, 4);
            x.addComet(60, 2, 4);
            due("two passes", x.fewestPasses(2), 2);
            x.addComet(60, 1, 8);
            due("one pass of the same worth", x.fewestPasses(2), 1);
            x.addComet(60, 1, 9);
            due("one pass of a greater worth", x.fewestPasses(2), 1);
        });
        holds(least, () -> {
            x.addComet(60, 1, 4);
            x.addComet(60, 2, 4);
            x.addComet(60, 1, 7);
            due("two passes, as one is worth less", x.fewestPasses(2), 2);
        });
        holds(least, () -> {
            x.addComet(60, 1, 8);
            x.addComet(60, 2, 4);
            x.addComet(60, 1, 4);
            x.addComet(60, 3, 1);
            due("the last passes count too", x.fewestPasses(3), 2);
        });
        holds(least, () -> {
            x.addComet(60, 1, 8);
            x.addComet(60, 3, 12);
            due("two passes", x.fewestPasses(6), 2);
            x.addComet(60, 2, 20);
            due("one pass of the same worth that begins later", x.fewestPasses(6), 1);
            due("two passes where it ends too late", x.fewestPasses(5), 2);
        });
        mostPasses(least, days -> x.fewestPasses(days), false);
    }

    // ---- queries about the ring

    void promise26() {
        range("`place`: the place, 0 to 11", INDEX, 0, 11, this::nothing, place -> x.dust(place));
        holds(NO_PLACE, () -> {
            pile(0, 7);
            pile(11, 9);
            refused(INDEX, () -> x.dust(-1), () -> x.dust(12));
            due("dust(0)", x.dust(0), 7);
            due("dust(11)", x.dust(11), 9);
            due("dust(1)", x.dust(1), 0);
            due("dust(10)", x.dust(10), 0);
        });
    }

    void promise27() {
        range("`start`: the place at which the arc starts, 0 to 11", INDEX, 0, 11, this::nothing,
                start -> x.gain(start, 1));
        range("`places`: the number of places, 1 to 12", ARGUMENT, 1, 12, this::nothing, places -> x.gain(11, places));
        holds(NO_PLACE, () -> {
            pile(0, 7);
            pile(11, 9);
            refused(INDEX, () -> x.gain(-1, 1), () -> x.gain(12, 1), () -> x.gain(12, 13));
            due("gain(0, 1)", x.gain(0, 1), 5);
            due("gain(11, 1)", x.gain(11, 1), 7);
        });
        holds(WRONG_PLACES, () -> {
            pile(0, 7);
            pile(11, 9);
            refused(ARGUMENT, () -> x.gain(0, 0), () -> x.gain(0, 13), () -> x.gain(11, 0), () -> x.gain(11, 13));
            due("gain(11, 2) around place 0", x.gain(11, 2), 7 + 9 - 4);
            due("gain(1, 11) up to place 11", x.gain(1, 11), 9 - 22);
            due("gain(1, 12) back to place 0", x.gain(1, 12), 7 + 9 - 24);
        });
        holds("Returns the gain, possibly negative.", () -> {
            due("the greatest loss", x.gain(0, 12), -24);
            x.setRate(9);
            due("the greatest loss", x.gain(7, 12), -108);
            pile(3, 9);
            due("neither", x.gain(3, 1), 0);
            due("a loss of more coins than there are", x.gain(3, 12), 9 - 108);
            pile(3, 1);
            due("a gain of 1", x.gain(3, 1), 1);
        });
    }

    private static final String RUNNING_SUMS = "Returns the gain of the best arc, found with running sums in one round "
            + "through the places: as the greatest sum of places in a row, or as the sum of all places without the least one.";

    private void bestGains(String sentence, OfOne best) {
        gains(sentence, best, 2, new int[12], -2);
        gains(sentence, best, 0, new int[12], 0);
        gains(sentence, best, 9, new int[] {1, 2, 3, 4, 5, 6, 7, 8, 7, 6, 5, 4}, -1);
        gains(sentence, best, 9, new int[] {9, 9, 9, 9, 9, 9, 9, 9, 9, 9, 9, 9}, 0);
        gains(sentence, best, 9, new int[] {10, 10, 10, 10, 10, 10, 10, 10, 10, 10, 10, 10}, 12);
        gains(sentence, best, 5, new int[] {8, 0, 0, 0, 0, 0, 0, 0, 0, 0, 0, 9}, 7);
        gains(sentence, best, 5, new int[] {9, 9, 0, 0, 0, 0, 0, 0, 0, 0, 0, 3}, 8);
        gains(sentence, best, 5, new int[] {9, 0, 9, 0, 0, 0, 0, 0, 0, 0, 0, 9}, 8);
        gains(sentence, best, 2, new int[] {9, 0, 9, 0, 0, 0, 0, 0, 0, 9, 0, 9}, 24);
        gains(sentence, best, 1, new int[] {9, 9, 9, 9, 9, 0, 9, 9, 9, 9, 9, 9}, 88);
        gains(sentence, best, 1, new int[] {0, 9, 9, 9, 9, 9, 9, 9, 9, 9, 9, 9}, 88);
        gains(sentence, best, 1, new int[] {9, 9, 9, 9, 9, 9, 9, 9, 9, 9, 9, 0}, 88);
        gains(sentence, best, 3, new int[] {0, 0, 0, 0, 0, 20, 0, 0, 0, 0, 0, 0}, 17);
        gains(sentence, best, 0, new int[] {1, 0, 0, 0, 0, 0, 0, 0, 0, 0, 0, 0}, 1);
    }

    private void gains(String sentence, OfOne best, int rate, int[] dust, int gain) {
        holds(sentence, () -> {
            for (int place = 0; place < 12; place++) {
                if (dust[place] > 0) {
                    pile(place, dust[place]);
                }
            }
            x.setRate(rate);
            due("the best gain", best.of(0), gain);
        });
    }

    void promise28() {
        bestGains(RUNNING_SUMS, nothing -> x.bestGain());
        gains("Returns the gain, possibly negative.", nothing -> x.bestGain(), 9, new int[12], -9);
        gains("Returns the gain, possibly negative.", nothing -> x.bestGain(), 1, new int[12], -1);
    }

    void promise29() {
        bestGains("Returns the same gain, found by trying all arcs.", nothing -> x.bestGainByArcs());
        gains("Returns the gain, possibly negative.", nothing -> x.bestGainByArcs(), 9, new int[12], -9);
        gains("Returns the gain, possibly negative.", nothing -> x.bestGainByArcs(), 1, new int[12], -1);
    }

    /** What is asked of the best arc, its start or its number of places, where several are as good. */
    private void bestArcs(String sentence, OfOne asked, boolean isStart) {
        int[][] rings = {new int[12], new int[12], {0, 0, 0, 0, 0, 0, 0, 0, 0, 0, 0, 5},
            {5, 0, 0, 0, 0, 0, 0, 0, 0, 0, 0, 5}, {1, 1, 1, 1, 1, 1, 1, 1, 1, 1, 1, 1},
            {1, 1, 1, 1, 1, 0, 1, 1, 1, 1, 1, 1}, {1, 0, 0, 0, 0, 0, 0, 0, 0, 0, 0, 1},
            {4, 2, 4, 0, 0, 0, 4, 2, 4, 0, 0, 0}, {2, 2, 3, 2, 2, 0, 0, 3, 0, 0, 0, 2},
            {0, 0, 0, 4, 0, 4, 0, 0, 6, 0, 0, 0}, {0, 9, 0, 0, 0, 0, 0, 0, 0, 0, 0, 0},
            {9, 9, 0, 0, 0, 0, 0, 0, 0, 0, 0, 0}};
        int[] rates = {2, 0, 2, 1, 0, 0, 0, 2, 2, 2, 2, 2};
        int[] starts = {0, 0, 11, 11, 0, 6, 11, 0, 2, 8, 1, 0};
        int[] lengths = {1, 1, 1, 2, 12, 11, 2, 3, 1, 1, 1, 2};
        for (int i = 0; i < rings.length; i++) {
            gains(sentence, asked, rates[i], rings[i], isStart ? starts[i] : lengths[i]);
        }
        holds(sentence, () -> {
            pile(7, 9);
            pile(8, 9);
            due("of the best arc", asked.of(0), isStart ? 7 : 2);
            x.clean(6, 4);
            due("of the best arc without dust", asked.of(0), isStart ? 0 : 1);
        });
    }

    void promise30() {
        bestArcs("Returns the place at which the best arc starts.", nothing -> x.bestStart(), true);
    }

    void promise31() {
        bestArcs("Returns the number, 1 to 12.", nothing -> x.bestPlaces(), false);
    }

    // ---- totals

    void promise32() {
        holds("Returns the day.", () -> {
            due("at first", x.day(), 0);
            throwing(ARGUMENT, () -> x.passDays(61));
            due("after a refused call", x.day(), 0);
            x.passDays(1);
            due("day()", x.day(), 1);
            x.passDays(60);
            due("day()", x.day(), 61);
            run("day 60;day 60");
            due("after a program", x.day(), 181);
        });
    }

    void promise33() {
        holds("Returns the number of coins.", () -> {
            due("at first", x.coins(), 20);
            x.setRate(5);
            x.clean(0, 4);
            due("down to none", x.coins(), 0);
            throwing(STATE, () -> x.clean(0, 1));
            due("after a refused call", x.coins(), 0);
            x.remove(x.addComet(2, 1, 1));
            due("up again", x.coins(), 1);
        });
    }

    void promise34() {
        holds("Returns the rate.", () -> {
            due("at first", x.rate(), 2);
            x.setRate(9);
            throwing(ARGUMENT, () -> x.setRate(10));
            due("the greatest rate", x.rate(), 9);
            x.setRate(0);
            throwing(ARGUMENT, () -> x.setRate(-1));
            due("the least rate", x.rate(), 0);
        });
    }

    private void dustTotals(String sentence, OfOne total) {
        holds(sentence, () -> {
            due("none", total.of(0), 0);
            pile(0, 1);
            due("on the first place", total.of(0), 1);
            pile(11, 20);
            due("on the last place", total.of(0), 21);
            x.clean(1, 10);
            due("nothing was removed", total.of(0), 21);
            x.clean(11, 1);
            due("some was removed", total.of(0), 1);
            throwing(STATE, () -> {
                x.setRate(9);
                return x.clean(0, 12);
            });
            due("a refused call removed nothing", total.of(0), 1);
            x.clean(0, 1);
            due("all was removed", total.of(0), 0);
            x.undo();
            due("undone", total.of(0), 1);
        });
    }

    void promise35() {
        dustTotals("Returns the dust on all places, added place by place.", nothing -> x.dustTotal());
    }

    void promise36() {
        dustTotals("Returns the same amount, computed from the accounts: the dust that has fallen minus the dust "
                + "that was removed.", nothing -> x.dustByAccounts());
    }

    void promise37() {
        holds("Returns the number of passes so far.", () -> {
            due("none", x.passTotal(), 0);
            x.addComet(60, 2, 2);
            x.addComet(60, 2, 1);
            x.passDays(1);
            due("a day before", x.passTotal(), 0);
            x.passDays(1);
            due("two on one day", x.passTotal(), 2);
            x.remove(0);
            x.passDays(60);
            due("passes of comets that are gone", x.passTotal(), 2);
        });
    }

    void promise38() {
        holds("Returns the number of comets that have been burnt out so far.", () -> {
            due("none", x.burntTotal(), 0);
            x.addComet(2, 1, 2);
            x.addComet(2, 3, 1);
            x.remove(x.addComet(2, 3, 1));
            due("a removed comet is not burnt out", x.burntTotal(), 0);
            x.passDays(2);
            due("a day before", x.burntTotal(), 0);
            x.passDays(1);
            due("two on one day", x.burntTotal(), 2);
            x.undo();
            due("undone", x.burntTotal(), 0);
        });
    }

    void promise39() {
        holds("Throws `ArithmeticException` if there are no comets", () -> {
            refused(ARITHMETIC, () -> x.meanBrightness());
            x.addComet(2, 1, 1);
            due("of one comet", x.meanBrightness(), 1.0);
            x.passDays(1);
            refused(ARITHMETIC, () -> x.meanBrightness());
        });
        holds("Returns the sum of the brightnesses divided by the number of comets, both converted to double.", () -> {
            x.addComet(2, 60, 1);
            x.addComet(2, 60, 2);
            due("not rounded", x.meanBrightness(), 1.5);
            x.addComet(2, 60, 2);
            due("not rounded", x.meanBrightness(), 5.0 / 3.0);
            x.addComet(2, 60, 20);
            x.addComet(2, 60, 20);
            x.addComet(2, 60, 20);
            due("of six comets", x.meanBrightness(), 65.0 / 6.0);
        });
    }

    void promise40() {
        holds("Returns the number of places with dust divided by 12, both converted to float.", () -> {
            due("none", x.dustyShare(), 0f);
            for (int place = 0; place < 12; place++) {
                pile(place, 1 + place % 2);
                due("places up to " + place, x.dustyShare(), (float) (place + 1) / 12f);
            }
            x.setRate(0);
            x.clean(11, 1);
            due("all but one", x.dustyShare(), 11f / 12f);
            x.clean(0, 12);
            due("none", x.dustyShare(), 0f);
        });
    }

    void promise41() {
        String invariants = "Checks the invariants: both ways of computing the dust agree, both ways of finding the best "
                + "gain agree, both ways of finding the greatest worth agree for 20 days, and no comet has a next pass "
                + "that is not after the present day.";
        holds(invariants, () -> {
            due("a new object", x.isConsistent(), true);
            x.addComet(2, 1, 20);
            due("a pass tomorrow", x.isConsistent(), true);
            x.passDays(1);
            due("on the day of a pass", x.isConsistent(), true);
            x.addComet(60, 60, 20);
            x.passDays(59);
            due("the day before a pass", x.isConsistent(), true);
            x.clean(0, 12);
            due("without dust", x.isConsistent(), true);
            x.undo();
            due("after undo", x.isConsistent(), true);
            x.setRate(9);
            due("with another rate", x.isConsistent(), true);
        });
    }

    // ---- programs

    void promise42() {
        String full = "Throws `IllegalStateException` if the buffer contains 60 characters";
        holds(full, () -> {
            for (int i = 1; i <= 59; i++) {
                x.append(' ');
            }
            due("the 60th character", x.append('x'), 60);
            refused(STATE, () -> x.append('x'), () -> x.append((char) 0));
            throwing(ARGUMENT, () -> x.run());
            due("the first character again", x.append('x'), 1);
        });
        holds("`character`: any character", () -> {
            due("the least character", x.append('\u0000'), 1);
            due("the greatest character", x.append('\uffff'), 2);
            due("a line's end", x.append('\n'), 3);
            due("a character beyond 127", x.append('\u00e9'), 4);
        });
    }

    void promise43() {
        failedPrograms();
        String empty = "The buffer is empty afterwards in every case.";
        holds(empty, () -> {
            run("rate 3");
            due("after a program", x.append('x'), 1);
            throwing(ARGUMENT, () -> x.run());
            due("after another text", x.append('d'), 1);
            throwing(UNSUPPORTED, () -> run("ay 0"));
            due("after a command failed", x.append('x'), 1);
        });
        holds(empty, () -> {
            run("rate 3");
            throwing(ARGUMENT, () -> x.run());
            due("errorPosition() of an empty text", x.errorPosition(), 0);
            run("day 1");
            due("the text before is gone", x.day(), 1);
        });
        String text = "turn 0 20;day 10";
        for (int length = 0; length < text.length(); length++) {
            String beginning = text.substring(0, length);
            holds(empty, () -> {
                oneComet();
                run(text);
                if (beginning.matches("turn 0 20?|.*;day 1")) {
                    due("run() of '" + beginning + "'", run(beginning), beginning.endsWith("day 1") ? 2 : 1);
                } else {
                    errorAt(beginning, beginning.length());
                }
            });
        }
        String wrong = "Throws `IllegalArgumentException` if the text is not a program; the error position is stored";
        holds(wrong, () -> {
            errorAt("", 0);
            errorAt("x", 0);
            errorAt("rate", 4);
            errorAt("rate 12", 6);
            errorAt("rate 1;", 7);
            errorAt("day 1;day 1;day 1;day 1;day 1;day 1;day 1;day 1;day 1;day 1x", 59);
            due("errorPosition() is the one stored last", x.errorPosition(), 0);
        });
        holds(wrong, () -> errorAt("day 1;day 1;day 1;day 1;day 1;day 1;day 1;day 1;day 1;day 1;", 60));
        holds("Returns the number of commands.", () -> {
            due("one", run("rate 3"), 1);
            due("as many as fit", run("day 1;day 1;day 1;day 1;day 1;day 1;day 1;day 1;day 1;day 1"), 10);
            due("day()", x.day(), 10);
        });
        holds("The commands are carried out in order.", () -> {
            run("rate 3;rate 4");
            due("the last one stands", x.rate(), 4);
            run("comet 2 1 1;turn 0 9;shine 0 1;day 1;drop 0");
            due("coins()", x.coins(), 20 - 3 + 1);
            failsAt("day 1;drop 1;comet 2 1 1", 1);
        });
    }

    private void failedPrograms() {
        holds("If one of them fails, none of them has an effect.", () -> {
            x.addComet(6, 4, 10);
            x.passDays(4);
            failsAt("comet 9 9 9;turn 0 7;shine 0 1;vac 4 1;rate 1;drop 0;drop 0", 6);
            due("undo()", x.undo(), 1);
            due("the next id", x.addComet(2, 1, 1), 1);
        });
        String fails = "Throws `UnsupportedOperationException` if a command fails, that is, if its method would throw an "
                + "exception; the index of the command, from 0, is stored as the failed command";
        String[] failing = {"comet 1 1 1", "comet 61 1 1", "comet 2 0 1", "comet 2 61 1", "comet 2 1 0", "comet 2 1 21",
            "drop 1", "drop 99", "turn 1 2", "turn 0 1", "turn 0 61", "shine 1 1", "shine 0 0", "shine 0 20",
            "shine 0 13", "shine 0 7", "day 0", "day 61", "vac 12 1", "vac 0 0", "vac 0 13", "vac 0 11", "day 00"};
        for (String command : failing) {
            holds(fails, () -> {
                x.addComet(6, 60, 8);
                failsAt(command, 0);
                failsAt("rate 2;" + command, 1);
                failsAt("rate 2;day 1;" + command + ";day 1;rate 3", 2);
            });
        }
        String[] working = {"comet 2 1 1", "comet 60 60 20", "drop 0", "turn 0 2", "turn 0 60", "shine 0 1", "shine 0 6",
            "day 1", "day 60", "vac 0 1", "vac 11 10", "rate 0", "rate 9"};
        for (String command : working) {
            holds(fails, () -> {
                x.addComet(6, 60, 8);
                due("run() of " + command, Check.answerOf(() -> run(command)), 1);
                throwing(ELEMENT, () -> x.failedCommand());
            });
        }
        holds(fails, () -> {
            for (int i = 0; i < 6; i++) {
                oneComet();
            }
            failsAt("comet 2 1 1", 0);
            failsAt("rate 1;rate 1;rate 1;rate 1;rate 1;rate 1;rate 1;comet 2 1 1", 7);
        });
        holds(fails, () -> failsAt("day 1;day 1;day 1;day 1;day 1;day 1;day 1;day 1;day 1;day 0", 9));
    }

    void promise44() {
        String none = "Throws `NoSuchElementException` if none was stored";
        holds(none, () -> refused(ELEMENT, () -> x.errorPosition()));
        holds(none, () -> {
            run("rate 3");
            throwing(UNSUPPORTED, () -> run("day 0"));
            refused(ELEMENT, () -> x.errorPosition());
            throwing(ARGUMENT, () -> x.run());
            due("position 0", x.errorPosition(), 0);
        });
        holds("Returns the error position that was stored last.", () -> {
            throwing(ARGUMENT, () -> run("day x"));
            throwing(ARGUMENT, () -> run("dx"));
            due("the last one", x.errorPosition(), 1);
            run("rate 3");
            throwing(UNSUPPORTED, () -> run("day 0"));
            due("it stays", x.errorPosition(), 1);
        });
    }

    void promise45() {
        String none = "Throws `NoSuchElementException` if none was stored";
        holds(none, () -> refused(ELEMENT, () -> x.failedCommand()));
        holds(none, () -> {
            run("rate 3");
            throwing(ARGUMENT, () -> run("day"));
            refused(ELEMENT, () -> x.failedCommand());
            throwing(UNSUPPORTED, () -> run("day 0"));
            due("command 0", x.failedCommand(), 0);
        });
        holds("Returns the failed command that was stored last.", () -> {
            throwing(UNSUPPORTED, () -> run("rate 1;rate 2;day 0"));
            throwing(UNSUPPORTED, () -> run("rate 1;day 0"));
            due("the last one", x.failedCommand(), 1);
            run("rate 3");
            throwing(ARGUMENT, () -> run("day"));
            due("it stays", x.failedCommand(), 1);
        });
    }

    // ---- output

    void promise46() {
        noComet(comet -> x.writeComet(comet));
        String writes = "Writes a comet to the output line, replacing its content: the id, \"*\" and the brightness, "
                + "\"/\" and the period, \"@\" and the day of the next pass; for example \"3*12/15@40\".";
        holds(writes, () -> {
            for (int i = 0; i < 3; i++) {
                oneComet();
            }
            x.addComet(15, 40, 12);
            x.addComet(2, 1, 1);
            x.addComet(60, 60, 20);
            due("writeComet(3)", x.writeComet(3), 10);
            due("the example", line(), "3*12/15@40");
            due("the shortest", x.writeComet(4), 7);
            due("it replaces a longer one", line(), "4*1/2@1");
            due("writeComet(5)", x.writeComet(5), 10);
            due("it replaces a shorter one", line(), "5*20/60@60");
        });
        holds(writes, () -> {
            for (int i = 0; i < 100; i++) {
                x.remove(x.addComet(2, 1, 1));
            }
            for (int i = 0; i < 20; i++) {
                x.passDays(60);
            }
            x.addComet(60, 60, 20);
            due("numbers of many digits", x.writeComet(100), 14);
            due("numbers of many digits", line(), "100*20/60@1260");
        });
        holds(NO_COMET, () -> {
            x.writeRing();
            throwing(ELEMENT, () -> x.writeComet(0));
            due("the line stays", line(), "0,0,0,0,0,0,0,0,0,0,0,0");
        });
    }

    void promise47() {
        String writes = "Writes the ring to the output line, replacing its content: the dust of all places from place 0 "
                + "to place 11, with \",\" between two of them.";
        holds(writes, () -> {
            due("the shortest", x.writeRing(), 23);
            due("the shortest", line(), "0,0,0,0,0,0,0,0,0,0,0,0");
            pile(0, 1);
            pile(11, 20);
            pile(11, 20);
            pile(10, 10);
            due("writeRing()", x.writeRing(), 25);
            due("writeRing()", line(), "1,0,0,0,0,0,0,0,0,0,10,40");
            x.setRate(0);
            x.clean(0, 12);
            due("it replaces a longer one", x.writeRing(), 23);
            due("it replaces a longer one", line(), "0,0,0,0,0,0,0,0,0,0,0,0");
        });
        holds(writes, () -> {
            x.addComet(12, 1, 20);
            x.writeComet(0);
            due("it replaces a comet", x.writeRing(), 23);
            for (int i = 0; i < 4; i++) {
                x.passDays(60);
            }
            due("a place with more than 99", x.writeRing(), 25);
            due("a place with more than 99", line(), "0,210,0,0,0,0,0,0,0,0,0,0");
        });
    }

    void promise48() {
        holds("Returns a character of the output line, which is initially empty.",
                () -> refused(INDEX, () -> x.outputAt(0)));
        holds("`index`: the index, from 0", () -> {
            x.addComet(2, 1, 1);
            x.writeComet(0);
            due("outputAt(0)", x.outputAt(0), '0');
            due("outputAt(1)", x.outputAt(1), '*');
            due("outputAt(6)", x.outputAt(6), '1');
        });
        holds("Throws `IndexOutOfBoundsException` if the index is negative or not less than the length of the line", () -> {
            x.addComet(2, 1, 1);
            int length = x.writeComet(0);
            refused(INDEX, () -> x.outputAt(-1), () -> x.outputAt(length), () -> x.outputAt(length + 1));
            for (int far : FAR) {
                throwing(INDEX, () -> x.outputAt(far));
            }
            int longer = x.writeRing();
            due("the last character", x.outputAt(longer - 1), '0');
            refused(INDEX, () -> x.outputAt(longer));
            x.writeComet(0);
            refused(INDEX, () -> x.outputAt(length), () -> x.outputAt(longer - 1));
        });
    }

    // ---- undo and snapshot

    void promise49() {
        String none = "Throws `IllegalStateException` if no call can be undone";
        holds(none, () -> {
            refused(STATE, () -> x.undo());
            x.setRate(2);
            due("undo()", x.undo(), 0);
            refused(STATE, () -> x.undo());
        });
        holds(none, () -> {
            for (int i = 1; i <= 9; i++) {
                x.setRate(i);
            }
            for (int left = 7; left >= 0; left--) {
                due("undo()", x.undo(), left);
            }
            refused(STATE, () -> x.undo());
            due("the first call stays", x.rate(), 1);
        });
        holds(none, () -> {
            x.setRate(3);
            x.save();
            x.restore();
            refused(STATE, () -> x.undo());
        });
        String undoes = "Undoes the most recent changing call that has not been undone.";
        holds(undoes, () -> {
            x.setRate(3);
            x.setRate(4);
            x.setRate(5);
            x.undo();
            due("the last one", x.rate(), 4);
            x.setRate(6);
            x.undo();
            due("the one made since", x.rate(), 4);
            x.undo();
            due("the one before", x.rate(), 3);
            due("the first one", x.undo(), 0);
            due("rate()", x.rate(), 2);
        });
        holds(undoes, () -> {
            run("rate 3;rate 4;day 5");
            due("a whole program", x.undo(), 0);
            due("rate()", x.rate(), 2);
            due("day()", x.day(), 0);
        });
        holds("Returns the number of calls that can still be undone.", () -> {
            for (int i = 1; i <= 8; i++) {
                x.setRate(i);
            }
            due("of 8", x.undo(), 7);
            x.setRate(0);
            due("of 8 again", x.undo(), 7);
            x.setRate(0);
            x.setRate(1);
            due("of 9", x.undo(), 7);
            x.undo();
            due("of 7", x.undo(), 5);
        });
    }

    void promise50() {
        String replacing = "Saves the state, replacing a previously saved state.";
        holds(replacing, () -> {
            x.setRate(3);
            x.save();
            x.setRate(4);
            x.save();
            x.setRate(5);
            x.restore();
            due("the state saved last", x.rate(), 4);
        });
        holds(replacing, () -> {
            x.save();
            oneComet();
            x.passDays(4);
            x.save();
            x.remove(0);
            x.clean(4, 1);
            x.restore();
            due("state", state(), "4 20 2 1 0 10: 0 0 0 0 10 0 0 0 0 0 0 0 #0 6 9 10 1");
        });
        holds("Saving is not a changing call.", () -> {
            x.save();
            refused(STATE, () -> x.undo());
            x.setRate(3);
            x.save();
            due("undo()", x.undo(), 0);
            due("rate()", x.rate(), 2);
            x.restore();
            due("what was saved", x.rate(), 3);
        });
    }

    void promise51() {
        holds("Restores the saved state, which stays saved.", () -> {
            oneComet();
            x.save();
            x.remove(0);
            x.restore();
            due("once", x.cometCount(), 1);
            x.brighten(0, 1);
            x.passDays(60);
            x.restore();
            due("twice", state(), "0 20 2 0 0 0: 0 0 0 0 0 0 0 0 0 0 0 0 #0 6 10 4 0");
            x.restore();
            due("at once again", x.cometCount(), 1);
        });
        holds("Afterwards no call can be undone.", () -> {
            x.setRate(3);
            x.setRate(4);
            x.save();
            x.setRate(5);
            x.restore();
            refused(STATE, () -> x.undo());
            due("rate()", x.rate(), 4);
            x.setRate(6);
            due("a call made since", x.undo(), 0);
            due("rate()", x.rate(), 4);
        });
        String none = "Throws `IllegalStateException` if no state was saved";
        holds(none, () -> {
            oneComet();
            refused(STATE, () -> {
                x.restore();
                return 0;
            });
            due("the call can still be undone", x.undo(), 0);
        });
        holds(none, () -> {
            x.save();
            oneComet();
            x.restore();
            due("an empty state was saved", x.cometCount(), 0);
        });
    }
}
