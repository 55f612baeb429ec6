import java.lang.reflect.Method;

/** Each promise of the document by its number: ordinary inputs, edges, and wrong inputs. */
public final class PromiseTest extends Bench {
    private static final int PROMISES = 51;

    public static void main(String[] args) throws Exception {
        PromiseTest test = new PromiseTest();
        for (int number = 1; number <= PROMISES; number++) {
            test.where = "promise " + number + ": ";
            test.fresh();
            Method method = PromiseTest.class.getDeclaredMethod("promise" + number);
            method.invoke(test);
        }
        test.check.end("PromiseTest");
    }

    void promise1() {
        due("cometCount()", x.cometCount(), 0);
        due("state", state(), "0 20 2 0 0 0: 0 0 0 0 0 0 0 0 0 0 0 0");
        throwing(STATE, () -> x.undo());
        throwing(INDEX, () -> x.outputAt(0));
        due("first id", x.addComet(2, 1, 1), 0);
        due("another object", new CometObservatory().cometCount(), 0);
    }

    void promise2() {
        due("addComet", x.addComet(60, 60, 20), 0);
        due("addComet", x.addComet(2, 1, 1), 1);
        due("nextPass(0)", x.nextPass(0), 60);
        due("nextPass(1)", x.nextPass(1), 1);
        due("coins()", x.coins(), 20);
        x.passDays(3);
        due("addComet", x.addComet(7, 5, 3), 2);
        due("nextPass(2)", x.nextPass(2), 8);
        due("passesOf(2)", x.passesOf(2), 0);
        for (int[] wrong : new int[][] {{1, 1, 1}, {61, 1, 1}, {2, 0, 1}, {2, 61, 1}, {2, 1, 0}, {2, 1, 21}}) {
            throwing(ARGUMENT, () -> x.addComet(wrong[0], wrong[1], wrong[2]));
        }
        for (int far : FAR) {
            throwing(ARGUMENT, () -> x.addComet(far, 1, 1));
            throwing(ARGUMENT, () -> x.addComet(2, far, 1));
            throwing(ARGUMENT, () -> x.addComet(2, 1, far));
        }
        due("cometCount()", x.cometCount(), 2);
        for (int i = 3; i <= 6; i++) {
            due("addComet", x.addComet(3, 60, 2), i);
        }
        throwing(STATE, () -> x.addComet(3, 60, 2));
        throwing(ARGUMENT, () -> x.addComet(1, 60, 2));
        x.remove(4);
        due("addComet", x.addComet(3, 60, 2), 7);
    }

    void promise3() {
        x.addComet(2, 1, 7);
        x.addComet(3, 2, 5);
        x.addComet(4, 3, 1);
        due("remove(1)", x.remove(1), 25);
        due("exists(1)", x.exists(1), false);
        due("cometAt(1)", x.cometAt(1), 2);
        due("brightness(2)", x.brightness(2), 1);
        due("burntTotal()", x.burntTotal(), 0);
        throwing(ELEMENT, () -> x.remove(1));
        throwing(ELEMENT, () -> x.remove(3));
        for (int far : FAR) {
            throwing(ELEMENT, () -> x.remove(far));
        }
        due("coins()", x.coins(), 25);
        x.passDays(3);
        throwing(ELEMENT, () -> x.remove(2));
        due("remove(0)", x.remove(0), 30);
        due("cometCount()", x.cometCount(), 0);
    }

    void promise4() {
        x.addComet(6, 4, 10);
        due("setPeriod(0, 2)", x.setPeriod(0, 2), 6);
        due("nextPass(0)", x.nextPass(0), 4);
        due("setPeriod(0, 60)", x.setPeriod(0, 60), 2);
        due("setPeriod(0, 60)", x.setPeriod(0, 60), 60);
        x.passDays(4);
        due("nextPass(0)", x.nextPass(0), 64);
        throwing(ARGUMENT, () -> x.setPeriod(0, 1));
        throwing(ARGUMENT, () -> x.setPeriod(0, 61));
        throwing(ELEMENT, () -> x.setPeriod(1, 61));
        for (int far : FAR) {
            throwing(ARGUMENT, () -> x.setPeriod(0, far));
            throwing(ELEMENT, () -> x.setPeriod(far, 2));
        }
        due("period(0)", x.period(0), 60);
    }

    void promise5() {
        x.addComet(6, 4, 1);
        due("brighten(0, 6)", x.brighten(0, 6), 7);
        due("coins()", x.coins(), 2);
        throwing(UNSUPPORTED, () -> x.brighten(0, 1));
        throwing(UNSUPPORTED, () -> x.brighten(0, 13));
        throwing(STATE, () -> x.brighten(0, 14));
        throwing(STATE, () -> x.brighten(0, 19));
        throwing(ARGUMENT, () -> x.brighten(0, 20));
        throwing(ARGUMENT, () -> x.brighten(0, 0));
        throwing(ELEMENT, () -> x.brighten(1, 0));
        for (int far : FAR) {
            throwing(ARGUMENT, () -> x.brighten(0, far));
            throwing(ELEMENT, () -> x.brighten(far, 1));
        }
        due("coins()", x.coins(), 2);
        due("brightness(0)", x.brightness(0), 7);
        earn(2);
        due("brighten(0, 13)", x.brighten(0, 13), 20);
        due("coins()", x.coins(), 3);
        x.remove(0);
        x.addComet(2, 60, 1);
        earn(2);
        int comet = x.cometAt(0);
        due("brighten by 19", x.brighten(comet, 19), 20);
        due("coins()", x.coins(), 6);
        x.setRate(3);
        x.clean(0, 1);
        x.addComet(2, 60, 1);
        due("the last coins", x.brighten(x.cometAt(1), 1), 2);
        due("coins()", x.coins(), 0);
        throwing(UNSUPPORTED, () -> x.brighten(x.cometAt(1), 1));
    }

    void promise6() {
        x.addComet(2, 1, 3);
        x.addComet(5, 3, 2);
        due("passDays(1)", x.passDays(1), 1);
        due("passDays(2)", x.passDays(2), 2);
        due("dust(1)", x.dust(1), 3);
        due("dust(3)", x.dust(3), 4);
        due("state", state(), "3 20 2 3 0 7: 0 3 0 4 0 0 0 0 0 0 0 0 #0 2 1 5 2 #1 5 1 8 1");
        due("passDays(60)", x.passDays(60), 2);
        due("state", state(), "63 20 2 5 2 9: 0 3 0 4 0 1 0 0 1 0 0 0");
        due("passDays(60)", x.passDays(60), 0);
        due("day()", x.day(), 123);
        throwing(ARGUMENT, () -> x.passDays(0));
        throwing(ARGUMENT, () -> x.passDays(61));
        for (int far : FAR) {
            throwing(ARGUMENT, () -> x.passDays(far));
        }
        due("day()", x.day(), 123);
        fresh();
        x.addComet(12, 12, 20);
        due("passDays(60)", x.passDays(60), 5);
        due("dust(0)", x.dust(0), 90);
        fresh();
        for (int i = 0; i < 6; i++) {
            x.addComet(2, 1, 1 + i % 2);
        }
        due("passDays(1)", x.passDays(1), 6);
        due("comets left", x.cometAt(0) * 100 + x.cometAt(1) * 10 + x.cometAt(2), 135);
        due("dust(1)", x.dust(1), 9);
    }

    void promise7() {
        dustOn(11, 0, 1);
        x.addComet(12, 1, 20);
        x.passDays(1);
        due("clean(11, 2)", x.clean(11, 2), 2);
        due("coins()", x.coins(), 18);
        due("dust(0)", x.dust(0), 0);
        due("dust(1)", x.dust(1), 1);
        due("dust(11)", x.dust(11), 0);
        due("clean(11, 12)", x.clean(11, 12), 21);
        due("coins()", x.coins(), 15);
        due("dustTotal()", x.dustTotal(), 0);
        due("dustByAccounts()", x.dustByAccounts(), 0);
        throwing(INDEX, () -> x.clean(-1, 1));
        throwing(INDEX, () -> x.clean(12, 0));
        throwing(ARGUMENT, () -> x.clean(0, 0));
        throwing(ARGUMENT, () -> x.clean(11, 13));
        for (int far : FAR) {
            throwing(INDEX, () -> x.clean(far, 1));
            throwing(ARGUMENT, () -> x.clean(0, far));
        }
        throwing(STATE, () -> x.clean(0, 8));
        due("clean(0, 7)", x.clean(0, 7), 0);
        due("coins()", x.coins(), 1);
        x.setRate(1);
        due("clean(3, 1)", x.clean(3, 1), 0);
        due("coins()", x.coins(), 0);
        throwing(STATE, () -> x.clean(3, 1));
        dustOn(5);
        due("clean(5, 1)", x.clean(5, 1), 1);
        due("coins()", x.coins(), 0);
        x.setRate(0);
        due("clean(5, 12)", x.clean(5, 12), 0);
    }

    void promise8() {
        due("setRate(9)", x.setRate(9), 2);
        due("setRate(0)", x.setRate(0), 9);
        due("setRate(0)", x.setRate(0), 0);
        throwing(ARGUMENT, () -> x.setRate(10));
        for (int far : FAR) {
            throwing(ARGUMENT, () -> x.setRate(far));
        }
        due("rate()", x.rate(), 0);
    }

    void promise9() {
        for (int i = 0; i < 6; i++) {
            due("cometCount()", x.cometCount(), i);
            x.addComet(2 + i, 1 + i, 1);
        }
        due("cometCount()", x.cometCount(), 6);
        x.passDays(2);
        due("cometCount()", x.cometCount(), 4);
        x.remove(5);
        due("cometCount()", x.cometCount(), 3);
    }

    void promise10() {
        throwing(INDEX, () -> x.cometAt(0));
        x.addComet(2, 9, 1);
        x.addComet(2, 1, 1);
        x.addComet(2, 5, 9);
        due("cometAt(1)", x.cometAt(1), 1);
        x.passDays(1);
        due("cometAt(0)", x.cometAt(0), 0);
        due("cometAt(1)", x.cometAt(1), 2);
        throwing(INDEX, () -> x.cometAt(2));
        for (int far : FAR) {
            throwing(INDEX, () -> x.cometAt(far));
        }
        x.remove(0);
        x.addComet(2, 5, 9);
        due("cometAt(0)", x.cometAt(0), 2);
        due("cometAt(1)", x.cometAt(1), 3);
    }

    void promise11() {
        due("exists(0)", x.exists(0), false);
        x.addComet(2, 1, 1);
        x.addComet(2, 2, 1);
        due("exists(0)", x.exists(0), true);
        due("exists(2)", x.exists(2), false);
        x.passDays(1);
        due("exists(0)", x.exists(0), false);
        due("exists(1)", x.exists(1), true);
        for (int far : FAR) {
            due("exists(far)", x.exists(far), false);
        }
    }

    /** Asks one query for a comet that is gone, for one not yet there, and for far ids. */
    private void noSuchComet(OfOne query) {
        throwing(ELEMENT, () -> query.of(0));
        x.remove(x.addComet(2, 1, 1));
        throwing(ELEMENT, () -> query.of(0));
        throwing(ELEMENT, () -> query.of(1));
        for (int far : FAR) {
            throwing(ELEMENT, () -> query.of(far));
        }
        fresh();
        x.addComet(2, 1, 1);
        x.passDays(1);
        throwing(ELEMENT, () -> query.of(0));
        fresh();
    }

    void promise12() {
        noSuchComet(comet -> x.period(comet));
        x.addComet(60, 1, 2);
        x.addComet(2, 1, 2);
        due("period(0)", x.period(0), 60);
        due("period(1)", x.period(1), 2);
        x.setPeriod(1, 33);
        due("period(1)", x.period(1), 33);
    }

    void promise13() {
        noSuchComet(comet -> x.brightness(comet));
        x.addComet(60, 1, 20);
        x.addComet(2, 1, 2);
        due("brightness(0)", x.brightness(0), 20);
        x.passDays(1);
        due("brightness(0)", x.brightness(0), 19);
        due("brightness(1)", x.brightness(1), 1);
        x.brighten(1, 3);
        due("brightness(1)", x.brightness(1), 4);
    }

    void promise14() {
        noSuchComet(comet -> x.tail(comet));
        int[] brightnesses = {1, 4, 5, 9, 10, 14};
        int[] tails = {1, 1, 2, 2, 3, 3};
        for (int i = 0; i < 6; i++) {
            due("tail at " + brightnesses[i], x.tail(x.addComet(2, 1, brightnesses[i])), tails[i]);
        }
        fresh();
        due("tail at 15", x.tail(x.addComet(2, 1, 15)), 4);
        due("tail at 19", x.tail(x.addComet(2, 1, 19)), 4);
        due("tail at 20", x.tail(x.addComet(2, 1, 20)), 5);
        x.passDays(1);
        due("tail(0)", x.tail(0), 3);
        due("tail(2)", x.tail(2), 4);
    }

    void promise15() {
        noSuchComet(comet -> x.nextPass(comet));
        x.addComet(7, 3, 20);
        due("nextPass(0)", x.nextPass(0), 3);
        x.passDays(2);
        due("nextPass(0)", x.nextPass(0), 3);
        x.passDays(1);
        due("nextPass(0)", x.nextPass(0), 10);
        x.passDays(7);
        due("nextPass(0)", x.nextPass(0), 17);
    }

    void promise16() {
        noSuchComet(comet -> x.passesOf(comet));
        x.addComet(7, 3, 20);
        x.addComet(2, 1, 20);
        x.passDays(17);
        due("passesOf(0)", x.passesOf(0), 3);
        due("passesOf(1)", x.passesOf(1), 9);
        x.remove(0);
        due("passesOf(1)", x.passesOf(1), 9);
        due("passesOf a new comet", x.passesOf(x.addComet(2, 1, 20)), 0);
    }

    void promise17() {
        noSuchComet(comet -> x.lastPass(comet));
        x.addComet(60, 60, 20);
        x.addComet(4, 2, 3);
        x.addComet(4, 9, 1);
        due("lastPass(0)", x.lastPass(0), 1200);
        due("lastPass(1)", x.lastPass(1), 10);
        due("lastPass(2)", x.lastPass(2), 9);
        x.passDays(6);
        due("lastPass(1)", x.lastPass(1), 10);
        x.setPeriod(1, 20);
        x.brighten(1, 2);
        due("lastPass(1)", x.lastPass(1), 50);
        x.passDays(3);
        due("exists(2)", x.exists(2), false);
    }

    void promise18() {
        throwing(INDEX, () -> x.cometAtRank(0));
        x.addComet(9, 9, 5);
        x.addComet(3, 8, 5);
        x.addComet(2, 9, 5);
        x.addComet(2, 60, 6);
        x.addComet(2, 1, 4);
        int[] ranked = {3, 1, 0, 2, 4};
        for (int rank = 0; rank < 5; rank++) {
            due("cometAtRank(" + rank + ")", x.cometAtRank(rank), ranked[rank]);
        }
        throwing(INDEX, () -> x.cometAtRank(5));
        for (int far : FAR) {
            throwing(INDEX, () -> x.cometAtRank(far));
        }
    }

    void promise19() {
        due("passesIn(60)", x.passesIn(60), 0);
        x.addComet(2, 1, 20);
        x.addComet(5, 3, 2);
        x.addComet(5, 60, 2);
        due("passesIn(0)", x.passesIn(0), 0);
        due("passesIn(1)", x.passesIn(1), 1);
        due("passesIn(3)", x.passesIn(3), 3);
        due("passesIn(39)", x.passesIn(39), 22);
        due("passesIn(59)", x.passesIn(59), 22);
        due("passesIn(60)", x.passesIn(60), 23);
        throwing(ARGUMENT, () -> x.passesIn(61));
        for (int far : FAR) {
            throwing(ARGUMENT, () -> x.passesIn(far));
        }
        x.passDays(3);
        due("passesIn(5)", x.passesIn(5), 3);
        due("day()", x.day(), 3);
    }

    private void meetings(OfTwo meeting) {
        throwing(ELEMENT, () -> meeting.of(0, 0));
        x.addComet(6, 4, 1);
        x.addComet(4, 2, 1);
        x.addComet(9, 9, 1);
        x.addComet(60, 60, 1);
        x.addComet(59, 59, 1);
        x.addComet(6, 4, 1);
        due("meeting of 0 and 1", meeting.of(0, 1), 10);
        due("meeting of 1 and 0", meeting.of(1, 0), 10);
        throwing(UNSUPPORTED, () -> meeting.of(0, 2));
        due("meeting of 1 and 2", meeting.of(1, 2), 18);
        due("meeting of 3 and 4", meeting.of(3, 4), 3540);
        due("meeting of 4 and 3", meeting.of(4, 3), 3540);
        due("meeting of 0 and 5", meeting.of(0, 5), 4);
        throwing(ARGUMENT, () -> meeting.of(2, 2));
        throwing(ELEMENT, () -> meeting.of(2, 6));
        throwing(ELEMENT, () -> meeting.of(6, 2));
        throwing(ELEMENT, () -> meeting.of(6, 6));
        for (int far : FAR) {
            throwing(ELEMENT, () -> meeting.of(0, far));
            throwing(ELEMENT, () -> meeting.of(far, far));
        }
        x.setPeriod(0, 2);
        due("meeting of 0 and 3", meeting.of(0, 3), 60);
        due("meeting of 3 and 0", meeting.of(3, 0), 60);
        fresh();
        x.addComet(2, 1, 20);
        x.addComet(3, 1, 20);
        due("meeting of 0 and 1", meeting.of(0, 1), 1);
        x.passDays(1);
        due("meeting of 0 and 1", meeting.of(0, 1), 7);
        everyMeeting(meeting);
    }

    /** Small periods and delays of all kinds, against looking at each day. */
    private void everyMeeting(OfTwo meeting) {
        for (int one = 2; one <= 9; one++) {
            for (int other = 2; other <= 9; other++) {
                for (int delay = 1; delay <= 30; delay += 3) {
                    fresh();
                    x.addComet(one, 11, 1);
                    x.addComet(other, delay, 1);
                    int day = Math.max(11, delay);
                    while (day < 200 && ((day - 11) % one != 0 || (day - delay) % other != 0)) {
                        day++;
                    }
                    Object want = day < 200 ? (Object) day : UNSUPPORTED.getSimpleName();
                    due("meeting", Check.answerOf(() -> meeting.of(0, 1)), want);
                }
            }
        }
    }

    void promise20() {
        meetings((one, other) -> x.nextMeeting(one, other));
    }

    void promise21() {
        meetings((one, other) -> x.nextMeetingByRemainders(one, other));
    }

    void promise22() {
        throwing(ARITHMETIC, () -> x.alignment());
        x.addComet(6, 1, 1);
        due("alignment()", x.alignment(), 6L);
        x.addComet(4, 1, 1);
        due("alignment()", x.alignment(), 12L);
        x.addComet(12, 1, 1);
        due("alignment()", x.alignment(), 12L);
        x.passDays(1);
        throwing(ARITHMETIC, () -> x.alignment());
        for (int period : new int[] {60, 59, 57, 53, 49, 47}) {
            x.addComet(period, 60, 1);
        }
        due("alignment()", x.alignment(), 20L * 59 * 57 * 53 * 49 * 47);
        due("alignment()", x.alignment() > Integer.MAX_VALUE, true);
    }

    private void wrongDays(OfOne plan) {
        throwing(ARGUMENT, () -> plan.of(61));
        for (int far : FAR) {
            throwing(ARGUMENT, () -> plan.of(far));
        }
        due("nothing to follow", plan.of(60), 0);
        due("no days", plan.of(0), 0);
    }

    private void worths(OfOne plan) {
        wrongDays(plan);
        x.addComet(6, 4, 10);
        x.addComet(4, 2, 3);
        x.addComet(9, 9, 20);
        due("1 day", plan.of(1), 0);
        due("2 days", plan.of(2), 3);
        due("3 days", plan.of(3), 3);
        due("5 days", plan.of(5), 3);
        due("6 days", plan.of(6), 13);
        due("12 days", plan.of(12), 22);
        due("13 days", plan.of(13), 33);
        due("20 days", plan.of(20), 41);
        due("state", state(), "0 20 2 0 0 0: 0 0 0 0 0 0 0 0 0 0 0 0 #0 6 10 4 0 #1 4 3 2 0 #2 9 20 9 0");
        x.passDays(4);
        due("2 days", plan.of(2), 2);
        fresh();
        x.addComet(2, 1, 20);
        due("60 days", plan.of(60), 20 + 17 + 15 + 13 + 11 + 9 + 8 + 7 + 6 + 5 + 4 + 3 + 2 + 1);
        for (int i = 1; i < 6; i++) {
            x.addComet(2, 1, 20);
        }
        due("as many passes as there can be", plan.of(60), 121);
        fresh();
        for (int i = 0; i < 6; i++) {
            x.addComet(2, 60 - i % 2, 4);
        }
        due("59 days", plan.of(59), 4);
        due("60 days", plan.of(60), 8);
        fresh();
        x.addComet(60, 1, 9);
        x.addComet(60, 2, 10);
        x.addComet(60, 3, 9);
        due("4 days", plan.of(4), 18);
        due("3 days", plan.of(3), 9);
    }

    /** Many passes at once, against the plain reference: its best worth, or its fewest passes. */
    private void manyPasses(OfOne plan, boolean isWorth) {
        for (int kind = 0; kind < 120; kind++) {
            fresh();
            Reference reference = new Reference();
            for (int i = 0; i < 6; i++) {
                int period = 2 + kind % 7 * (i + kind) % 9;
                int delay = 1 + (i * kind + i) % 13;
                int brightness = 1 + (kind + i * (kind % 5)) % 20;
                x.addComet(period, delay, brightness);
                reference.call("comet", period, delay, brightness);
            }
            for (int days = 0; days <= 60; days += 1 + kind % 6) {
                int want = isWorth ? reference.bestWorth(days) : reference.fewestPasses(days);
                due("kind " + kind + ", " + days + " days", plan.of(days), want);
            }
        }
    }

    void promise23() {
        worths(days -> x.bestWorth(days));
        manyPasses(days -> x.bestWorth(days), true);
    }

    void promise24() {
        worths(days -> x.bestWorthByDays(days));
        manyPasses(days -> x.bestWorthByDays(days), true);
    }

    void promise25() {
        wrongDays(days -> x.fewestPasses(days));
        x.addComet(6, 4, 10);
        x.addComet(4, 2, 3);
        x.addComet(9, 9, 20);
        due("3 days", x.fewestPasses(3), 1);
        due("6 days", x.fewestPasses(6), 2);
        due("20 days", x.fewestPasses(20), 4);
        due("1 day", x.fewestPasses(1), 0);
        fresh();
        x.addComet(60, 1, 4);
        x.addComet(60, 2, 4);
        x.addComet(60, 1, 8);
        due("2 days, the same worth by one pass", x.fewestPasses(2), 1);
        due("2 days", x.bestWorth(2), 8);
        x.addComet(60, 2, 1);
        x.addComet(60, 3, 1);
        due("3 days", x.fewestPasses(3), 2);
        due("3 days", x.bestWorth(3), 9);
        manyPasses(days -> x.fewestPasses(days), false);
    }

    void promise26() {
        throwing(INDEX, () -> x.dust(12));
        for (int far : FAR) {
            throwing(INDEX, () -> x.dust(far));
        }
        x.addComet(11, 1, 20);
        x.passDays(34);
        due("dust(0)", x.dust(0), 19);
        due("dust(1)", x.dust(1), 20);
        due("dust(11)", x.dust(11), 18);
        due("dust(10)", x.dust(10), 17);
        due("dust(2)", x.dust(2), 0);
        x.clean(0, 1);
        due("dust(0)", x.dust(0), 0);
    }

    void promise27() {
        dustOn(0, 1, 2, 3, 11);
        due("gain(0, 1)", x.gain(0, 1), -1);
        due("gain(11, 2)", x.gain(11, 2), -2);
        due("gain(5, 12)", x.gain(5, 12), -19);
        x.setRate(0);
        due("gain(10, 4)", x.gain(10, 4), 3);
        due("gain(4, 12)", x.gain(4, 12), 5);
        due("gain(4, 7)", x.gain(4, 7), 0);
        throwing(INDEX, () -> x.gain(12, 1));
        throwing(INDEX, () -> x.gain(-1, 0));
        throwing(ARGUMENT, () -> x.gain(0, 0));
        throwing(ARGUMENT, () -> x.gain(0, 13));
        for (int far : FAR) {
            throwing(INDEX, () -> x.gain(far, 1));
            throwing(ARGUMENT, () -> x.gain(11, far));
        }
        x.passDays(1);
        due("coins()", x.coins(), 20);
    }

    private void bestArcs() {
        bestArc(-2, 0, 1);
        x.setRate(0);
        bestArc(0, 0, 1);
        x.setRate(9);
        bestArc(-9, 0, 1);
        dustOn(4);
        bestArc(-8, 4, 1);
        x.setRate(1);
        bestArc(0, 4, 1);
        x.setRate(0);
        bestArc(1, 4, 1);
        dustOn(11, 0);
        bestArc(3, 11, 6);
        x.setRate(1);
        bestArc(0, 0, 1);
        x.addComet(12, 11 - x.day() % 12, 3);
        x.passDays(11);
        bestArc(3, 11, 1);
        x.addComet(12, 1, 2);
        x.passDays(1);
        bestArc(5, 11, 2);
        x.addComet(12, 12, 20);
        x.passDays(60);
        x.setRate(9);
        bestArc(85, 0, 1);
        dustOn(1, 2, 3, 4, 5, 6, 7, 8, 9, 10, 11);
        x.setRate(0);
        due("all places", x.bestPlaces(), 12);
        due("from place 0", x.bestStart(), 0);
        x.clean(6, 1);
        due("all places but one", x.bestPlaces(), 11);
        due("from behind it", x.bestStart(), 7);
        due("both ways", x.bestGain(), x.bestGainByArcs());
    }

    void promise28() {
        bestArcs();
    }

    void promise29() {
        bestArcs();
    }

    void promise30() {
        bestArcs();
    }

    void promise31() {
        bestArcs();
    }

    void promise32() {
        due("day()", x.day(), 0);
        x.passDays(1);
        x.passDays(60);
        due("day()", x.day(), 61);
    }

    void promise33() {
        due("coins()", x.coins(), 20);
        x.addComet(2, 1, 10);
        x.passDays(1);
        due("coins()", x.coins(), 20);
        x.clean(1, 1);
        due("coins()", x.coins(), 28);
        x.brighten(0, 2);
        due("coins()", x.coins(), 22);
        x.remove(0);
        due("coins()", x.coins(), 33);
    }

    void promise34() {
        due("rate()", x.rate(), 2);
        x.setRate(0);
        due("rate()", x.rate(), 0);
        x.setRate(9);
        due("rate()", x.rate(), 9);
    }

    private void dustTotals(OfOne total) {
        due("no dust", total.of(0), 0);
        x.addComet(11, 1, 20);
        x.passDays(34);
        due("fallen", total.of(0), 74);
        x.clean(0, 2);
        due("fallen and removed", total.of(0), 35);
        x.clean(2, 1);
        due("nothing removed", total.of(0), 35);
        x.passDays(60);
        due("more fallen", total.of(0), 35 + 16 + 15 + 14 + 13 + 12);
        x.undo();
        x.undo();
        x.undo();
        due("undone", total.of(0), 74);
    }

    void promise35() {
        dustTotals(nothing -> x.dustTotal());
    }

    void promise36() {
        dustTotals(nothing -> x.dustByAccounts());
    }

    void promise37() {
        due("passTotal()", x.passTotal(), 0);
        x.addComet(2, 1, 20);
        x.addComet(5, 3, 2);
        x.passDays(8);
        due("passTotal()", x.passTotal(), 6);
        x.remove(0);
        x.passDays(8);
        due("passTotal()", x.passTotal(), 6);
    }

    void promise38() {
        due("burntTotal()", x.burntTotal(), 0);
        x.addComet(2, 1, 2);
        x.addComet(5, 3, 1);
        x.passDays(2);
        due("burntTotal()", x.burntTotal(), 0);
        x.passDays(1);
        due("burntTotal()", x.burntTotal(), 2);
        x.remove(x.addComet(5, 3, 1));
        due("burntTotal()", x.burntTotal(), 2);
    }

    void promise39() {
        throwing(ARITHMETIC, () -> x.meanBrightness());
        x.addComet(2, 1, 10);
        due("meanBrightness()", x.meanBrightness(), 10.0);
        x.addComet(2, 2, 1);
        due("meanBrightness()", x.meanBrightness(), 5.5);
        x.addComet(2, 2, 2);
        due("meanBrightness()", x.meanBrightness(), 13.0 / 3.0);
        x.remove(0);
        x.remove(1);
        x.remove(2);
        throwing(ARITHMETIC, () -> x.meanBrightness());
    }

    void promise40() {
        due("dustyShare()", x.dustyShare(), 0f);
        dustOn(5);
        due("dustyShare()", x.dustyShare(), 1f / 12f);
        dustOn(5, 7, 11, 0);
        due("dustyShare()", x.dustyShare(), 4f / 12f);
        dustOn(1, 2, 3, 4, 6, 8, 9, 10);
        due("dustyShare()", x.dustyShare(), 1f);
    }

    void promise41() {
        due("isConsistent()", x.isConsistent(), true);
        for (int i = 0; i < 6; i++) {
            x.addComet(2 + i, 1 + i, 20 - i);
            due("isConsistent()", x.isConsistent(), true);
        }
        for (int i = 0; i < 30; i++) {
            x.passDays(1 + i);
            due("isConsistent()", x.isConsistent(), true);
        }
        due("undo() after queries", x.undo(), 7);
    }

    void promise42() {
        due("append", x.append('r'), 1);
        due("append", x.append((char) 0), 2);
        due("append", x.append((char) 65535), 3);
        for (int i = 4; i <= 60; i++) {
            due("append", x.append(';'), i);
        }
        throwing(STATE, () -> x.append(';'));
        throwing(STATE, () -> x.append('a'));
        throwing(ARGUMENT, () -> x.run());
        due("errorPosition()", x.errorPosition(), 1);
        due("append", x.append('a'), 1);
    }

    void promise43() {
        due("run()", run("comet 6 4 10"), 1);
        due("run()", run("comet 04 2 03;turn 00 60;shine 1 1;day 9;rate 0"), 5);
        due("state", state(), "9 17 0 3 0 17: 0 0 4 0 10 0 3 0 0 0 0 0 #0 60 9 64 1 #1 4 2 10 2");
        due("run()", run("vac 11 12;drop 1"), 2);
        due("coins()", x.coins(), 36);
        due("dustTotal()", x.dustTotal(), 0);
        due("undo()", x.undo(), 2);
        due("undo()", x.undo(), 1);
        due("state", state(), "0 20 2 0 0 0: 0 0 0 0 0 0 0 0 0 0 0 0 #0 6 10 4 0");
        failsAt("day 1;day 60;rate 9;day 0", 3);
        failsAt("comet 1 1 1", 0);
        due("undo()", x.undo(), 0);
        due("run() of ten commands", run("day 1;day 1;day 1;day 1;day 1;day 1;day 1;day 1;day 1;rate 5"), 10);
        due("day()", x.day(), 9);
        due("undo()", x.undo(), 0);
        due("day()", x.day(), 0);
        failingCommands();
        wrongTexts();
    }

    private void failingCommands() {
        failing("comet 2 1 1;comet 2 1 1;comet 2 1 1;comet 2 1 1;comet 2 1 1", 4);
        failing("comet 2 1 1;day 1;drop 2", 2);
        failing("turn 0 1", 0);
        failing("turn 9 2", 0);
        failing("turn 0 2;turn 0 61", 1);
        failing("shine 9 1", 0);
        failing("shine 0 0", 0);
        failing("shine 0 11", 0);
        failing("shine 0 7", 0);
        failing("shine 0 6;shine 0 1", 1);
        failing("shine 0 20", 0);
        failing("vac 12 1", 0);
        failing("vac 0 0", 0);
        failing("vac 0 13", 0);
        failing("vac 0 11", 0);
        failing("day 61", 0);
        failing("drop 0;drop 0", 1);
        failing("drop 99", 0);
    }

    private void failing(String text, int command) {
        fresh();
        x.addComet(6, 4, 10);
        x.addComet(2, 60, 20);
        failsAt(text, command);
        due("undo()", x.undo(), 1);
    }

    private void wrongTexts() {
        wrongText("", 0);
        wrongText(";", 0);
        wrongText("x", 0);
        wrongText("d", 1);
        wrongText("dx", 1);
        wrongText("drx", 2);
        wrongText("dax", 2);
        wrongText("da", 2);
        wrongText("day", 3);
        wrongText("day ", 4);
        wrongText("day  1", 4);
        wrongText("day 123", 6);
        wrongText("day 12 ", 6);
        wrongText("day 1,day 1", 5);
        wrongText("day 1; day 1", 6);
        wrongText("day 1;", 6);
        wrongText("day 1;d", 7);
        wrongText("day -1", 4);
        wrongText("rate 10", 6);
        wrongText("rate ", 5);
        wrongText("comet 1 2", 9);
        wrongText("comet 1 2;", 9);
        wrongText("comet 10 20 ", 12);
        wrongText("comet 1 2 3 ", 11);
        wrongText("turn 1;", 6);
        wrongText("vac 1 1 1", 7);
        wrongText("turn 1", 6);
        wrongText("day 1day 1", 5);
        wrongText("turn 123", 7);
        wrongText("turn 1234 5", 7);
        wrongText("comet 112233", 8);
        wrongText("Day 1", 0);
        wrongText("day\u01201", 3);
        wrongText("day \u0661", 4);
        wrongText("comets 1 2 3", 5);
        wrongText("day 1;day 1;day 1;day 1;day 1;day 1;day 1;day 1;day 1;day 1;", 60);
        wrongText("day 1;day 1;day 1;day 1;day 1;day 1;day 1;day 1;day 1;shine ", 60);
        wrongText("day 1;day 1;day 1;day 1;day 1;day 1;day 1;day 1;day 1;turn 1", 60);
    }

    private void wrongText(String text, int position) {
        fresh();
        String before = state();
        errorAt(text, position);
        due("state after '" + text + "'", state(), before);
    }

    void promise44() {
        throwing(ELEMENT, () -> x.errorPosition());
        run("day 1");
        throwing(UNSUPPORTED, () -> run("day 0"));
        throwing(ELEMENT, () -> x.errorPosition());
        throwing(ARGUMENT, () -> run("dry"));
        due("errorPosition()", x.errorPosition(), 2);
        run("day 1");
        x.undo();
        due("errorPosition()", x.errorPosition(), 2);
        throwing(ARGUMENT, () -> x.run());
        due("errorPosition()", x.errorPosition(), 0);
        x.save();
        throwing(ARGUMENT, () -> run("day"));
        x.restore();
        due("errorPosition()", x.errorPosition(), 3);
    }

    void promise45() {
        throwing(ELEMENT, () -> x.failedCommand());
        throwing(ARGUMENT, () -> run("dry"));
        throwing(ELEMENT, () -> x.failedCommand());
        throwing(UNSUPPORTED, () -> run("day 1;day 0;day 0"));
        due("failedCommand()", x.failedCommand(), 1);
        run("day 1");
        throwing(ARGUMENT, () -> run("dry"));
        x.undo();
        due("failedCommand()", x.failedCommand(), 1);
        x.save();
        throwing(UNSUPPORTED, () -> run("day 0"));
        x.restore();
        due("failedCommand()", x.failedCommand(), 0);
    }

    void promise46() {
        noSuchComet(comet -> x.writeComet(comet));
        for (int i = 0; i < 3; i++) {
            x.addComet(2, 1, 1);
        }
        x.addComet(15, 40, 12);
        due("writeComet(3)", x.writeComet(3), 10);
        due("output", output(10), "3*12/15@40");
        due("writeComet(0)", x.writeComet(0), 7);
        due("output", output(7), "0*1/2@1");
        throwing(INDEX, () -> x.outputAt(7));
        throwing(ELEMENT, () -> x.writeComet(4));
        due("output", output(7), "0*1/2@1");
        x.passDays(40);
        due("writeComet(3)", x.writeComet(3), 10);
        due("output", output(10), "3*11/15@55");
    }

    void promise47() {
        due("writeRing()", x.writeRing(), 23);
        due("output", output(23), "0,0,0,0,0,0,0,0,0,0,0,0");
        x.addComet(11, 1, 20);
        x.passDays(34);
        due("writeRing()", x.writeRing(), 27);
        due("output", output(27), "19,20,0,0,0,0,0,0,0,0,17,18");
        throwing(INDEX, () -> x.outputAt(27));
    }

    void promise48() {
        throwing(INDEX, () -> x.outputAt(0));
        x.addComet(2, 1, 1);
        x.writeComet(0);
        due("outputAt(0)", x.outputAt(0), '0');
        due("outputAt(1)", x.outputAt(1), '*');
        due("outputAt(6)", x.outputAt(6), '1');
        throwing(INDEX, () -> x.outputAt(7));
        for (int far : FAR) {
            throwing(INDEX, () -> x.outputAt(far));
        }
        x.save();
        x.undo();
        due("outputAt(0)", x.outputAt(0), '0');
        x.writeRing();
        x.restore();
        due("outputAt(1)", x.outputAt(1), ',');
    }

    void promise49() {
        throwing(STATE, () -> x.undo());
        String[] states = new String[12];
        Check.Call[] changes = {
            () -> x.addComet(6, 4, 10), () -> x.addComet(2, 1, 3), () -> x.passDays(5), () -> x.setPeriod(0, 9),
            () -> x.brighten(0, 3), () -> x.clean(4, 1), () -> x.setRate(2), () -> run("rate 7;day 3"),
            () -> x.remove(0), () -> x.passDays(60)};
        for (int i = 0; i < changes.length; i++) {
            states[i] = i < 2 ? "" : state();
            changes[i].make();
        }
        throwing(ARGUMENT, () -> x.passDays(0));
        throwing(UNSUPPORTED, () -> run("rate 1;day 0"));
        for (int i = 0; i < 8; i++) {
            due("undo()", x.undo(), 7 - i);
            due("state", state(), states[9 - i]);
        }
        throwing(STATE, () -> x.undo());
        due("state", state(), states[2]);
        due("the id given again", x.addComet(2, 1, 1), 2);
        fresh();
        x.setRate(5);
        x.setRate(6);
        x.undo();
        x.setRate(7);
        due("undo()", x.undo(), 1);
        due("rate()", x.rate(), 5);
        x.append('d');
        x.undo();
        due("the text stays", x.append('a'), 2);
        throwing(STATE, () -> x.undo());
        for (int i = 0; i < 30; i++) {
            x.setRate(i % 10);
            x.setRate(i % 9);
            due("undo()", x.undo(), Math.min(i + 1, 7));
        }
        due("undo()", x.undo(), 6);
        due("rate()", x.rate(), 8);
    }

    void promise50() {
        x.addComet(6, 4, 10);
        x.save();
        due("undo() after save()", x.undo(), 0);
        due("cometCount()", x.cometCount(), 0);
        x.restore();
        due("cometCount()", x.cometCount(), 1);
        x.passDays(4);
        x.save();
        String saved = state();
        x.passDays(9);
        x.brighten(0, 2);
        x.restore();
        due("state", state(), saved);
        x.passDays(1);
        x.save();
        saved = state();
        x.remove(0);
        x.restore();
        due("the state saved last", state(), saved);
    }

    void promise51() {
        throwing(STATE, () -> {
            x.restore();
            return 0;
        });
        x.addComet(6, 4, 10);
        x.passDays(5);
        x.setRate(1);
        x.save();
        String saved = state();
        x.addComet(6, 4, 10);
        x.remove(0);
        x.clean(4, 2);
        x.restore();
        due("state", state(), saved);
        throwing(STATE, () -> x.undo());
        due("the next id", x.addComet(9, 9, 9), 1);
        due("undo()", x.undo(), 0);
        due("state", state(), saved);
        x.passDays(60);
        x.restore();
        due("state, restored again", state(), saved);
        x.append('d');
        x.restore();
        due("the text stays", x.append('a'), 2);
    }
}
