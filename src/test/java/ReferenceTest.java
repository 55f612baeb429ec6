import java.util.function.Function;

/** Long runs of calls, always the same ones, answered by the class and by the plain reference. */
public final class ReferenceTest {
    private static final int RUNS = 3000;
    private static final int MOST_CALLS = 512;

    private final Check check = new Check();
    private long seed;
    private CometObservatory tested;
    private Reference reference;
    private int style;
    private int run;
    private int calls;

    public static void main(String[] args) {
        ReferenceTest test = new ReferenceTest();
        for (int run = 0; run < RUNS && test.check.wrong() < 20; run++) {
            test.oneRun(run);
        }
        test.check.end("ReferenceTest");
    }

    private void oneRun(int run) {
        seed = run * 7919L + 17;
        style = run % 4;
        tested = new CometObservatory();
        reference = new Reference();
        this.run = run;
        calls = 0;
        while (calls < MOST_CALLS && check.wrong() < 20) {
            step();
        }
    }

    /** A number from 0 to bound - 1; the sequence depends on the run alone. */
    private int pick(int bound) {
        seed = seed * 6364136223846793005L + 1442695040888963407L;
        return (int) ((seed >>> 33) % bound);
    }

    private int between(int least, int most) {
        return least + pick(most - least + 1);
    }

    /** Mostly a number in the range, sometimes one at its edge, just outside, or far away. */
    private int number(int least, int most) {
        switch (pick(24)) {
            case 0: return least;
            case 1: return most;
            case 2: return pick(2) == 0 ? least - 1 : most + 1;
            case 3: return new int[] {Integer.MIN_VALUE, Integer.MAX_VALUE, -1, 0, 1 << 30}[pick(5)];
            default: return between(least, most);
        }
    }

    /** Mostly the id of a comet that exists. */
    private int comet() {
        int count = reference.cometCount();
        if (count == 0 || pick(12) == 0) {
            return number(0, 12);
        }
        return reference.cometAt(pick(count));
    }

    private int period() {
        return style == 1 ? number(2, 8) : number(2, 60);
    }

    private int delay() {
        return style == 1 ? number(1, 6) : number(1, 60);
    }

    private int days() {
        return style == 2 ? number(1, 60) : number(1, 9);
    }

    /** Beyond the document's limit of calls nothing is called, as what it would answer is free. */
    private void compare(String what, Function<Reference, Object> wanted, Function<CometObservatory, Object> got) {
        if (calls >= MOST_CALLS) {
            return;
        }
        String where = "run " + run + ", call " + calls + ": ";
        calls++;
        check.due(where + what, Check.answerOf(() -> got.apply(tested)), Check.answerOf(() -> wanted.apply(reference)));
    }

    private void step() {
        int kind = pick(100);
        if (kind < 40) {
            change();
        } else if (kind < 46) {
            snapshotOrUndo();
        } else if (kind < 49) {
            program();
        } else {
            query();
        }
    }

    private void change() {
        int comet = comet();
        switch (pick(style == 3 ? 8 : 12)) {
            case 0: {
                int period = period();
                int delay = delay();
                int brightness = number(1, 20);
                compare("addComet(" + period + ", " + delay + ", " + brightness + ")",
                        r -> r.call("comet", period, delay, brightness), x -> x.addComet(period, delay, brightness));
                return;
            }
            case 1:
                compare("remove(" + comet + ")", r -> r.call("drop", comet, 0, 0), x -> x.remove(comet));
                return;
            case 2: {
                int period = period();
                compare("setPeriod(" + comet + ", " + period + ")",
                        r -> r.call("turn", comet, period, 0), x -> x.setPeriod(comet, period));
                return;
            }
            case 3: {
                int amount = number(1, 19);
                compare("brighten(" + comet + ", " + amount + ")",
                        r -> r.call("shine", comet, amount, 0), x -> x.brighten(comet, amount));
                return;
            }
            case 4: {
                int start = number(0, 11);
                int places = number(1, 12);
                compare("clean(" + start + ", " + places + ")",
                        r -> r.call("vac", start, places, 0), x -> x.clean(start, places));
                return;
            }
            case 5: {
                int rate = number(0, 9);
                compare("setRate(" + rate + ")", r -> r.call("rate", rate, 0, 0), x -> x.setRate(rate));
                return;
            }
            case 6:
            case 7: {
                int days = days();
                compare("passDays(" + days + ")", r -> r.call("day", days, 0, 0), x -> x.passDays(days));
                return;
            }
            default: {
                int period = period();
                int delay = delay();
                int brightness = number(1, 20);
                compare("addComet(" + period + ", " + delay + ", " + brightness + ")",
                        r -> r.call("comet", period, delay, brightness), x -> x.addComet(period, delay, brightness));
            }
        }
    }

    private void snapshotOrUndo() {
        switch (pick(6)) {
            case 0:
                compare("save()", r -> r.save(), x -> {
                    x.save();
                    return 0;
                });
                return;
            case 1:
                compare("restore()", r -> r.restore(), x -> {
                    x.restore();
                    return 0;
                });
                return;
            default:
                compare("undo()", r -> r.undo(), x -> x.undo());
        }
    }

    private void program() {
        String text = text();
        for (int i = 0; i < text.length(); i++) {
            char sign = text.charAt(i);
            compare("append(" + (int) sign + ")", r -> r.append(sign), x -> x.append(sign));
        }
        compare("run() of " + text, r -> r.run(), x -> x.run());
        compare("errorPosition()", r -> r.errorPosition(), x -> x.errorPosition());
        compare("failedCommand()", r -> r.failedCommand(), x -> x.failedCommand());
    }

    private String text() {
        StringBuilder text = new StringBuilder();
        int commands = between(1, 6);
        for (int i = 0; i < commands; i++) {
            text.append(i == 0 ? "" : ";").append(command());
        }
        String signs = "cometdropturnshinedayvacrate 0123456789;\u00e9\u20ac";
        if (pick(3) == 0) {
            int damaged = pick(text.length());
            text.setCharAt(damaged, signs.charAt(pick(signs.length())));
        }
        if (pick(6) == 0) {
            text.setLength(pick(text.length() + 1));
        }
        if (pick(12) == 0) {
            text.insert(pick(text.length() + 1), signs.charAt(pick(signs.length())));
        }
        if (pick(3) > 0 && text.length() > 60) {
            text.setLength(60);
        }
        return text.toString();
    }

    private String command() {
        int comet = Math.floorMod(comet(), 100);
        switch (pick(8)) {
            case 0:
                return "comet " + between(1, 62) + " " + between(0, 61) + " " + between(0, 21);
            case 1:
                return "drop " + comet;
            case 2:
                return "turn " + comet + " " + between(1, 62);
            case 3:
                return "shine " + comet + " " + between(0, 20);
            case 4:
                return "vac " + between(0, 12) + " " + between(0, 13);
            case 5:
                return "rate " + between(0, 9);
            case 6:
                return "day " + (pick(2) == 0 ? "0" : "") + between(0, 9);
            default:
                return "day " + between(0, 61);
        }
    }

    private void query() {
        switch (pick(6)) {
            case 0: cometQuery(); return;
            case 1: rowQuery(); return;
            case 2: telescopeQuery(); return;
            case 3: ringQuery(); return;
            case 4: totalQuery(); return;
            default: outputQuery();
        }
    }

    private void cometQuery() {
        int comet = comet();
        int other = comet();
        String one = "(" + comet + ")";
        String both = "(" + comet + ", " + other + ")";
        switch (pick(11)) {
            case 0: compare("exists" + one, r -> r.exists(comet), x -> x.exists(comet)); return;
            case 1: compare("period" + one, r -> r.period(comet), x -> x.period(comet)); return;
            case 2: compare("brightness" + one, r -> r.brightness(comet), x -> x.brightness(comet)); return;
            case 3: compare("tail" + one, r -> r.tail(comet), x -> x.tail(comet)); return;
            case 4: compare("nextPass" + one, r -> r.nextPass(comet), x -> x.nextPass(comet)); return;
            case 5: compare("passesOf" + one, r -> r.passesOf(comet), x -> x.passesOf(comet)); return;
            case 6: compare("lastPass" + one, r -> r.lastPass(comet), x -> x.lastPass(comet)); return;
            case 7:
            case 8:
                compare("nextMeeting" + both, r -> r.nextMeeting(comet, other), x -> x.nextMeeting(comet, other));
                return;
            default:
                compare("nextMeetingByRemainders" + both,
                        r -> r.nextMeeting(comet, other), x -> x.nextMeetingByRemainders(comet, other));
        }
    }

    private void rowQuery() {
        int position = number(0, 5);
        switch (pick(4)) {
            case 0: compare("cometCount()", r -> r.cometCount(), x -> x.cometCount()); return;
            case 1: compare("cometAt(" + position + ")", r -> r.cometAt(position), x -> x.cometAt(position)); return;
            case 2:
                compare("cometAtRank(" + position + ")", r -> r.cometAtRank(position), x -> x.cometAtRank(position));
                return;
            default: compare("alignment()", r -> r.alignment(), x -> x.alignment());
        }
    }

    private void telescopeQuery() {
        int days = number(0, 60);
        switch (pick(4)) {
            case 0: compare("passesIn(" + days + ")", r -> r.passesIn(days), x -> x.passesIn(days)); return;
            case 1: compare("bestWorth(" + days + ")", r -> r.bestWorth(days), x -> x.bestWorth(days)); return;
            case 2:
                compare("bestWorthByDays(" + days + ")", r -> r.bestWorth(days), x -> x.bestWorthByDays(days));
                return;
            default: compare("fewestPasses(" + days + ")", r -> r.fewestPasses(days), x -> x.fewestPasses(days));
        }
    }

    private void ringQuery() {
        int start = number(0, 11);
        int places = number(1, 12);
        switch (pick(6)) {
            case 0: compare("dust(" + start + ")", r -> r.dust(start), x -> x.dust(start)); return;
            case 1:
                compare("gain(" + start + ", " + places + ")", r -> r.gain(start, places), x -> x.gain(start, places));
                return;
            case 2: compare("bestGain()", r -> r.bestArc()[0], x -> x.bestGain()); return;
            case 3: compare("bestGainByArcs()", r -> r.bestArc()[0], x -> x.bestGainByArcs()); return;
            case 4: compare("bestStart()", r -> r.bestArc()[1], x -> x.bestStart()); return;
            default: compare("bestPlaces()", r -> r.bestArc()[2], x -> x.bestPlaces());
        }
    }

    private void totalQuery() {
        switch (pick(10)) {
            case 0: compare("day()", r -> r.day(), x -> x.day()); return;
            case 1: compare("coins()", r -> r.coins(), x -> x.coins()); return;
            case 2: compare("rate()", r -> r.rate(), x -> x.rate()); return;
            case 3: compare("dustTotal()", r -> r.dustTotal(), x -> x.dustTotal()); return;
            case 4: compare("dustByAccounts()", r -> r.dustByAccounts(), x -> x.dustByAccounts()); return;
            case 5: compare("passTotal()", r -> r.passTotal(), x -> x.passTotal()); return;
            case 6: compare("burntTotal()", r -> r.burntTotal(), x -> x.burntTotal()); return;
            case 7: compare("meanBrightness()", r -> r.meanBrightness(), x -> x.meanBrightness()); return;
            case 8: compare("dustyShare()", r -> r.dustyShare(), x -> x.dustyShare()); return;
            default: compare("isConsistent()", r -> true, x -> x.isConsistent());
        }
    }

    private void outputQuery() {
        int comet = comet();
        int index = number(0, 30);
        switch (pick(4)) {
            case 0: compare("writeComet(" + comet + ")", r -> r.writeComet(comet), x -> x.writeComet(comet)); return;
            case 1: compare("writeRing()", r -> r.writeRing(), x -> x.writeRing()); return;
            default: compare("outputAt(" + index + ")", r -> r.outputAt(index), x -> x.outputAt(index));
        }
    }
}
