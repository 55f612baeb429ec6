import java.io.IOException;
import java.nio.file.Path;

/** The sentences of the document's section "Terms", each with cases of its own at its boundaries. */
public final class TermsTest extends SentenceCases {
    private TermsTest(Path document) throws IOException {
        super(document);
    }

    public static void main(String[] args) throws Exception {
        TermsTest test = new TermsTest(Path.of(args[0]));
        test.section("What it is");
        test.calls();
        test.section("Terms");
        test.comets();
        test.days();
        test.passes();
        test.ring();
        test.arcs();
        test.telescope();
        test.plans();
        test.meetings();
        test.coins();
        test.programs();
        test.undo();
        test.exceptions();
        test.divisions();
        test.endSection();
        test.check.end("TermsTest");
    }

    private void calls() {
        String atMost = "An object is used for at most 512 calls after it has been made; "
                + "what later calls answer is free.";
        holds(atMost, () -> {
            for (int i = 0; i < 511; i++) {
                x.passDays(60);
            }
            due("the 512th call", x.day(), 511 * 60);
        });
        holds(atMost, () -> {
            for (int i = 0; i < 255; i++) {
                x.addComet(2, 60, 20);
                x.remove(i);
            }
            due("the 511th call", x.addComet(2, 60, 20), 255);
            due("the 512th call", x.undo(), 7);
        });
    }

    // ---- comets

    private void comets() {
        sixComets();
        ids();
        String bounds = "A comet has a period from 2 to 60 days, a brightness from 1 to 20, "
                + "and a day on which it passes next.";
        holds(bounds, () -> {
            x.addComet(2, 1, 1);
            x.addComet(60, 60, 20);
            due("state", state(), "0 20 2 0 0 0: 0 0 0 0 0 0 0 0 0 0 0 0 #0 2 1 1 0 #1 60 20 60 0");
            refused(ARGUMENT, () -> x.addComet(1, 1, 1), () -> x.addComet(61, 1, 1), () -> x.addComet(2, 1, 0),
                    () -> x.addComet(2, 1, 21), () -> x.setPeriod(0, 1), () -> x.setPeriod(0, 61));
            refused(STATE, () -> x.brighten(1, 1));
        });
        holds("The tail of a comet is 1 plus its brightness divided by 5.", () -> {
            int[] tails = {1, 1, 1, 1, 2, 2, 2, 2, 2, 3, 3, 3, 3, 3, 4, 4, 4, 4, 4, 5};
            for (int brightness = 1; brightness <= 20; brightness++) {
                int comet = x.addComet(2, 1, brightness);
                due("tail at " + brightness, x.tail(comet), tails[brightness - 1]);
                x.remove(comet);
            }
        });
        nextPasses();
    }

    private void sixComets() {
        String atMost = "There are at most 6 comets at a time.";
        holds(atMost, () -> {
            for (int i = 0; i < 6; i++) {
                due("addComet", x.addComet(2, 60, 1), i);
            }
            refused(STATE, () -> x.addComet(2, 60, 1));
            due("cometCount()", x.cometCount(), 6);
        });
        holds(atMost, () -> {
            addAll(6);
            x.remove(0);
            due("room after remove", x.addComet(2, 1, 1), 6);
            throwing(STATE, () -> x.addComet(2, 60, 1));
            x.passDays(1);
            due("room after a comet is burnt out", x.addComet(2, 60, 1), 7);
            throwing(STATE, () -> x.addComet(2, 60, 1));
        });
        holds(atMost, () -> {
            due("four by a program", run("comet 2 60 1;comet 2 60 1;comet 2 60 1;comet 2 60 1"), 4);
            due("six by a program", run("comet 2 60 1;comet 2 60 1"), 2);
            failsAt("comet 2 60 1", 0);
            due("one for another", run("drop 5;comet 2 60 1"), 2);
        });
    }

    private void addAll(int comets) {
        for (int i = 0; i < comets; i++) {
            x.addComet(2, 60, 1);
        }
    }

    private void ids() {
        String ids = "Each comet has an id; ids are given in ascending order from 0 and not used again.";
        holds(ids, () -> {
            due("the first id", x.addComet(2, 1, 1), 0);
            due("the second id", x.addComet(2, 60, 1), 1);
            due("the third id", x.addComet(2, 60, 1), 2);
            x.remove(2);
            due("the id after the last comet was removed", x.addComet(2, 60, 1), 3);
            x.passDays(1);
            due("the id after a comet was burnt out", x.addComet(2, 60, 1), 4);
            x.remove(1);
            x.remove(3);
            x.remove(4);
            due("the id after all are gone", x.addComet(2, 60, 1), 5);
        });
        holds(ids, () -> {
            throwing(ARGUMENT, () -> x.addComet(1, 1, 1));
            throwing(UNSUPPORTED, () -> run("comet 2 1 1;comet 2 1 1;day 0"));
            due("the id after refused calls", x.addComet(2, 1, 1), 0);
            run("comet 2 1 1;drop 1;comet 2 1 1");
            due("the id after a program", x.addComet(2, 1, 1), 3);
        });
        holds(ids, () -> {
            for (int i = 0; i < 200; i++) {
                due("addComet", x.addComet(2, 1, 1), i);
                x.remove(i);
            }
        });
    }

    private void nextPasses() {
        String next = "After a pass, the next one follows when as many days as the period have gone by.";
        holds(next, () -> {
            x.addComet(2, 1, 20);
            due("the first pass", x.passDays(1), 1);
            due("nextPass(0)", x.nextPass(0), 3);
            due("a day too early", x.passDays(1), 0);
            due("the second pass", x.passDays(1), 1);
            due("nextPass(0)", x.nextPass(0), 5);
        });
        holds(next, () -> {
            x.addComet(60, 60, 20);
            due("a day too early", x.passDays(59), 0);
            due("the first pass", x.passDays(1), 1);
            due("nextPass(0)", x.nextPass(0), 120);
            due("a day too early", x.passDays(59), 0);
            due("the second pass", x.passDays(1), 1);
            due("nextPass(0)", x.nextPass(0), 180);
        });
        holds(next, () -> {
            x.addComet(2, 1, 20);
            x.setPeriod(0, 9);
            x.passDays(1);
            due("with the period at the time of the pass", x.nextPass(0), 10);
            x.setPeriod(0, 2);
            due("nextPass(0)", x.nextPass(0), 10);
        });
    }

    // ---- days and passes

    private void days() {
        holds("The present day is a number, initially 0.", () -> {
            due("day()", x.day(), 0);
            x.addComet(2, 1, 1);
            due("the next pass in a day", x.nextPass(0), 1);
        });
        String order = "In one day the following things happen in order: the day increases by 1; "
                + "then the comets whose next pass is on this day pass, in ascending order of ids.";
        holds(order, () -> {
            x.addComet(2, 1, 5);
            due("the pass of the first day", x.passDays(1), 1);
            due("day()", x.day(), 1);
            due("dust on the place of the day before", x.dust(0), 0);
            due("dust on the place of the day", x.dust(1), 5);
        });
        holds(order, () -> {
            for (int brightness : new int[] {1, 1, 2, 1, 1, 3}) {
                x.addComet(7, 4, brightness);
            }
            due("nobody passes", x.passDays(3), 0);
            due("all pass, though some burn out", x.passDays(1), 6);
            due("state", state(), "4 20 2 6 4 9: 0 0 0 0 9 0 0 0 0 0 0 0 #2 7 1 11 1 #5 7 2 11 1");
        });
        holds(order, () -> {
            x.addComet(2, 2, 1);
            x.addComet(2, 1, 1);
            due("a later comet may pass first", x.passDays(1), 1);
            due("it is gone", x.exists(1), false);
            due("the other is not", x.exists(0), true);
        });
    }

    private void passes() {
        String dust = "When a comet passes, as much dust as its brightness falls on the place whose number "
                + "is the remainder of the day divided by 12.";
        for (int day : new int[] {1, 10, 11, 12, 13, 23, 24, 25, 59, 60}) {
            holds(dust, () -> {
                x.addComet(60, day, 20);
                x.passDays(day);
                for (int place = 0; place < 12; place++) {
                    due("dust on " + place + " after a pass on day " + day, x.dust(place), place == day % 12 ? 20 : 0);
                }
            });
        }
        holds(dust, () -> {
            x.addComet(12, 12, 1);
            x.addComet(12, 12, 2);
            x.passDays(24);
            due("dust of three passes on one place", x.dust(0), 1 + 2 + 1);
        });
        holds("Then its brightness decreases by 1.", () -> {
            x.addComet(2, 1, 20);
            for (int brightness = 19; brightness >= 1; brightness--) {
                x.passDays(1);
                due("brightness after the pass", x.brightness(0), brightness);
                x.passDays(1);
                due("brightness a day later", x.brightness(0), brightness);
            }
        });
        burningOut();
    }

    private void burningOut() {
        String burnt = "A comet whose brightness is 0 then is burnt out and does not exist any more.";
        holds(burnt, () -> {
            x.addComet(2, 1, 1);
            x.addComet(2, 1, 2);
            x.passDays(1);
            due("exists(0)", x.exists(0), false);
            due("exists(1)", x.exists(1), true);
            due("brightness(1)", x.brightness(1), 1);
            due("burntTotal()", x.burntTotal(), 1);
            throwing(ELEMENT, () -> x.brightness(0));
            due("the other burns out too", x.passDays(2), 1);
            due("exists(1)", x.exists(1), false);
            due("no more passes", x.passDays(60), 0);
            due("cometCount()", x.cometCount(), 0);
            due("burntTotal()", x.burntTotal(), 2);
        });
        holds(burnt, () -> {
            x.addComet(2, 1, 3);
            due("all passes within one call", x.passDays(60), 3);
            due("dustTotal()", x.dustTotal(), 3 + 2 + 1);
            due("exists(0)", x.exists(0), false);
        });
    }

    // ---- ring

    private void ring() {
        String places = "There are 12 places in a ring, numbered from 0 to 11; place 0 follows place 11.";
        holds(places, () -> {
            due("dust(0)", x.dust(0), 0);
            due("dust(11)", x.dust(11), 0);
            refused(INDEX, () -> x.dust(-1), () -> x.dust(12), () -> x.gain(-1, 1), () -> x.gain(12, 1),
                    () -> x.clean(-1, 1), () -> x.clean(12, 1));
        });
        holds(places, () -> {
            pile(10, 2);
            pile(11, 3);
            pile(0, 4);
            pile(1, 5);
            x.setRate(0);
            due("gain(11, 2)", x.gain(11, 2), 3 + 4);
            due("gain(10, 3)", x.gain(10, 3), 2 + 3 + 4);
            due("clean(11, 2)", x.clean(11, 2), 3 + 4);
            due("dust(11)", x.dust(11), 0);
            due("dust(0)", x.dust(0), 0);
            due("dust(10)", x.dust(10), 2);
            due("dust(1)", x.dust(1), 5);
        });
        holds("Each place holds an amount of dust, initially 0.", () -> {
            for (int place = 0; place < 12; place++) {
                due("dust(" + place + ")", x.dust(place), 0);
            }
        });
        String lengths = "An arc is a place, at which it starts, and the places that follow it; "
                + "it consists of 1 to 12 places.";
        holds(lengths, () -> {
            int[] dust = {9, 1, 20, 4, 7, 2, 13, 5, 3, 17, 6, 11};
            for (int place = 0; place < 12; place++) {
                pile(place, dust[place]);
            }
            x.setRate(0);
            for (int start = 0; start < 12; start++) {
                int sum = 0;
                for (int length = 1; length <= 12; length++) {
                    sum += dust[(start + length - 1) % 12];
                    due("gain(" + start + ", " + length + ")", x.gain(start, length), sum);
                }
            }
        });
        holds(lengths, () -> refused(ARGUMENT, () -> x.gain(0, 0), () -> x.gain(0, 13), () -> x.clean(0, 0),
                () -> x.clean(0, 13), () -> x.gain(11, 13), () -> x.clean(11, -1)));
    }

    private void arcs() {
        String costs = "To clean an arc brings one coin for each unit of dust that is removed from its places, "
                + "and costs the present rate for each of its places.";
        holds(costs, () -> {
            dustOn(3);
            x.clean(3, 1);
            due("coins after 1 of dust, 1 place at 2 coins", x.coins(), 19);
            x.clean(3, 1);
            due("coins after no dust, 1 place at 2 coins", x.coins(), 17);
            x.clean(0, 8);
            due("coins after no dust, 8 places at 2 coins", x.coins(), 1);
            x.setRate(0);
            x.clean(0, 12);
            due("coins after no dust, 12 places at 0 coins", x.coins(), 1);
            dustOn(0, 1, 2, 3, 4, 5, 6, 7, 8, 9, 10, 11);
            x.setRate(1);
            x.clean(5, 12);
            due("coins after 12 of dust, 12 places at 1 coin", x.coins(), 1);
        });
        holds("The rate is from 0 to 9 coins, initially 2.", () -> {
            due("rate()", x.rate(), 2);
            due("gain(0, 1)", x.gain(0, 1), -2);
            x.setRate(9);
            due("gain(0, 1)", x.gain(0, 1), -9);
            x.setRate(0);
            due("gain(0, 1)", x.gain(0, 1), 0);
            refused(ARGUMENT, () -> x.setRate(-1), () -> x.setRate(10));
        });
        holds("The gain of an arc is what cleaning it brings minus what it costs.", () -> {
            pile(5, 3);
            due("a gain", x.gain(5, 1), 1);
            due("a loss", x.gain(5, 2), -1);
            x.setRate(3);
            due("neither", x.gain(5, 1), 0);
            int coins = x.coins();
            x.clean(5, 2);
            due("what cleaning it changed", x.coins() - coins, 3 - 6);
        });
        bestArcs();
    }

    private void bestArcs() {
        String best = "The best arc has the greatest gain; among several of these it is the shortest one, "
                + "and among several of these the one that starts at the place with the lowest number.";
        holds(best, () -> bestArc(-2, 0, 1));
        holds(best, () -> {
            x.setRate(0);
            bestArc(0, 0, 1);
        });
        holds(best, () -> {
            dustOn(7, 3);
            bestArc(-1, 3, 1);
        });
        holds(best, () -> {
            pile(7, 4);
            pile(3, 4);
            bestArc(2, 3, 1);
            pile(7, 1);
            bestArc(3, 7, 1);
        });
        holds(best, () -> {
            pile(3, 4);
            pile(4, 2);
            bestArc(2, 3, 1);
            pile(4, 1);
            bestArc(3, 3, 2);
            pile(9, 5);
            bestArc(3, 9, 1);
        });
        holds(best, () -> {
            pile(0, 5);
            pile(11, 5);
            bestArc(6, 11, 2);
            pile(4, 5);
            pile(5, 5);
            bestArc(6, 4, 2);
            pile(10, 3);
            bestArc(7, 10, 3);
        });
        holds(best, () -> {
            dustOn(0, 1, 2, 3, 4, 5, 6, 7, 8, 9, 10, 11);
            x.setRate(0);
            bestArc(12, 0, 12);
            x.setRate(1);
            bestArc(0, 0, 1);
            x.setRate(0);
            x.clean(0, 1);
            bestArc(11, 1, 11);
            x.clean(4, 1);
            bestArc(10, 1, 11);
            x.clean(11, 1);
            bestArc(9, 1, 10);
        });
    }

    // ---- telescope

    /** What is due for some days: the worth, found in both ways, and the fewest passes. */
    private void plan(int days, int worth, int passes) {
        due("bestWorth(" + days + ")", x.bestWorth(days), worth);
        due("bestWorthByDays(" + days + ")", x.bestWorthByDays(days), worth);
        due("fewestPasses(" + days + ")", x.fewestPasses(days), passes);
    }

    private void telescope() {
        String following = "The telescope can follow a pass from the day of the pass on for as many days as the tail "
                + "of the comet is at this time, just before its brightness decreases.";
        int[] brightnesses = {1, 4, 5, 9, 10, 14, 15, 19, 20};
        int[] tails = {1, 1, 2, 2, 3, 3, 4, 4, 5};
        for (int i = 0; i < brightnesses.length; i++) {
            int brightness = brightnesses[i];
            int lastDay = 3 + tails[i] - 1;
            holds(following, () -> {
                x.addComet(60, 3, brightness);
                plan(lastDay - 1, 0, 0);
                plan(lastDay, brightness, 1);
            });
        }
        holds(following, () -> {
            x.addComet(2, 1, 5);
            plan(2, 5, 1);
            plan(3, 5 + 4, 2);
        });
        holds("A pass is worth the brightness of the comet just before it decreases.", () -> {
            x.addComet(20, 1, 1);
            plan(60, 1, 1);
            x.addComet(20, 10, 20);
            plan(29, 1 + 20, 2);
            plan(60, 1 + 20 + 19 + 18, 4);
            x.passDays(10);
            plan(60, 19 + 18, 2);
        });
    }

    private void plans() {
        daysOfPlans();
        String plan = "A plan for some days is a set of passes that happen on the days after the present one, in which "
                + "all days of following are among these days, and no two passes are followed on the same day.";
        holds(plan, () -> {
            x.addComet(60, 10, 5);
            x.addComet(60, 11, 7);
            plan(60, 7, 1);
            x.addComet(60, 12, 6);
            plan(60, 5 + 6, 2);
            x.addComet(60, 9, 4);
            plan(60, 4 + 5 + 6, 3);
        });
        holds(plan, () -> {
            x.addComet(60, 10, 3);
            x.addComet(60, 10, 4);
            plan(60, 4, 1);
            x.addComet(60, 11, 4);
            plan(60, 4 + 4, 2);
        });
        holds("The worth of a plan is the sum of the worths of its passes.", () -> {
            plan(60, 0, 0);
            for (int i = 0; i < 6; i++) {
                x.addComet(60, 10 * i + 1, 20 - i);
            }
            plan(60, 20 + 19 + 18 + 17 + 16 + 15, 6);
        });
        String asDaysGoBy = "Comets pass as they would if only days went by.";
        holds(asDaysGoBy, () -> {
            x.addComet(3, 1, 2);
            plan(1, 2, 1);
            plan(3, 2, 1);
            plan(4, 2 + 1, 2);
            plan(60, 2 + 1, 2);
        });
        holds(asDaysGoBy, () -> {
            x.addComet(5, 1, 20);
            String before = everything();
            plan(60, (20 + 9) * 12 / 2, 12);
            due("passesIn(60)", x.passesIn(60), 12);
            due("everything after the queries", everything(), before);
        });
    }

    private void daysOfPlans() {
        String plan = "A plan for some days is a set of passes that happen on the days after the present one, in which "
                + "all days of following are among these days, and no two passes are followed on the same day.";
        holds(plan, () -> {
            x.addComet(60, 1, 4);
            plan(0, 0, 0);
            plan(1, 4, 1);
            x.passDays(1);
            plan(59, 0, 0);
            plan(60, 3, 1);
        });
        holds(plan, () -> {
            x.addComet(60, 60, 4);
            plan(59, 0, 0);
            plan(60, 4, 1);
        });
        holds(plan, () -> {
            x.addComet(60, 57, 15);
            plan(59, 0, 0);
            plan(60, 15, 1);
        });
        holds(plan, () -> {
            x.addComet(60, 58, 15);
            plan(60, 0, 0);
            x.passDays(1);
            plan(60, 15, 1);
        });
    }

    // ---- meetings and coins

    private void meetings() {
        String meet = "Two comets meet on a day if both would pass on it, whether they would be burnt out before or not.";
        holds(meet, () -> {
            x.addComet(2, 1, 1);
            x.addComet(3, 3, 1);
            bothMeet(3);
            x.setPeriod(0, 7);
            bothMeet(15);
            x.setPeriod(0, 60);
            x.setPeriod(1, 59);
            bothMeet(121);
        });
        holds(meet, () -> {
            x.addComet(60, 2, 20);
            x.addComet(59, 1, 1);
            bothMeet(2 + 58 * 60);
            x.passDays(1);
            refused(ELEMENT, () -> x.nextMeeting(0, 1), () -> x.nextMeetingByRemainders(0, 1));
        });
    }

    private void bothMeet(int day) {
        due("nextMeeting(0, 1)", x.nextMeeting(0, 1), day);
        due("nextMeeting(1, 0)", x.nextMeeting(1, 0), day);
        due("nextMeetingByRemainders(0, 1)", x.nextMeetingByRemainders(0, 1), day);
        due("nextMeetingByRemainders(1, 0)", x.nextMeetingByRemainders(1, 0), day);
    }

    private void coins() {
        holds("There are 20 coins at first.", () -> {
            due("coins()", x.coins(), 20);
            x.addComet(2, 1, 1);
            throwing(UNSUPPORTED, () -> x.brighten(0, 7));
            due("brighten(0, 6)", x.brighten(0, 6), 7);
            due("coins()", x.coins(), 2);
        });
    }

    // ---- programs

    private void programs() {
        String most = "The text buffer holds at most 60 characters.";
        holds(most, () -> {
            for (int i = 1; i <= 60; i++) {
                due("append", x.append('9'), i);
            }
            refused(STATE, () -> x.append('9'), () -> x.append(';'));
            throwing(ARGUMENT, () -> x.run());
            due("append after run", x.append('9'), 1);
        });
        holds(most, () -> {
            type("comet 10 10 10;comet 10 10 10;comet 10 10 10;turn 0 60;day ");
            due("append", x.append('1'), 60);
            throwing(STATE, () -> x.append('0'));
            due("run() of 60 characters", x.run(), 5);
            due("day()", x.day(), 1);
        });
        grammar();
        commands();
        errors();
    }

    private void grammar() {
        String[] programs = {"comet 6 4 10", "comet 06 04 01", "comet 0 0 0", "comet 99 99 99", "drop 0", "drop 99",
            "turn 0 2", "turn 00 02", "shine 0 1", "shine 99 99", "day 1", "day 01", "day 99", "vac 0 1", "vac 00 12",
            "rate 0", "rate 9", "day 1;day 2", "day 0;rate 0;day 10", "rate 1;rate 2;rate 3;rate 4;rate 5;rate 6",
            "day 1;day 1;day 1;day 1;day 1;day 1;day 1;day 1;day 1;day 1"};
        for (String program : programs) {
            holds("A program has this grammar:", () -> isProgram(program));
        }
        String[] others = {"", ";", "day", "day ", "day 1;", ";day 1", "day 1;;day 1", "day 001", "day 1 ", " day 1",
            "day  1", "day 1, day 2", "Day 1", "rate 10", "rate 00", "comet 6 4", "comet 6 4 10 1", "comet 6,4,10",
            "drop", "drop 1 1", "turn 1", "turn 1 1 1", "shine 1", "shine 1 1 1", "vac 1", "vac 1 1 1", "day -1",
            "day +1", "day 1\n", "day\t1", "run", "clean 0 1", "day 1;day"};
        for (String other : others) {
            holds("A program has this grammar:", () -> throwing(ARGUMENT, () -> run(other)));
        }
    }

    /** It is one also if a command of it fails. */
    private void isProgram(String text) {
        Object answer = Check.answerOf(() -> run(text));
        boolean isOne = answer instanceof Integer || answer.equals(UNSUPPORTED.getSimpleName());
        due("'" + text + "' is a program", isOne, true);
    }

    private void commands() {
        String call = "The commands call addComet (period, delay, brightness), remove, setPeriod (comet, period), "
                + "brighten (comet, amount), passDays, clean (start, places) and setRate.";
        sameAs(call, "comet 7 9 11", () -> x.addComet(7, 9, 11));
        sameAs(call, "drop 1", () -> x.remove(1));
        sameAs(call, "turn 1 2", () -> x.setPeriod(1, 2));
        sameAs(call, "shine 1 2", () -> x.brighten(1, 2));
        sameAs(call, "day 3", () -> x.passDays(3));
        sameAs(call, "vac 2 4", () -> x.clean(2, 4));
        sameAs(call, "rate 5", () -> x.setRate(5));
    }

    private void sameAs(String sentence, String command, Runnable call) {
        holds(sentence, () -> {
            readyForCommands();
            due("run()", run(command), 1);
            String byProgram = state();
            fresh();
            readyForCommands();
            call.run();
            due("state after '" + command + "'", byProgram, state());
        });
    }

    private void readyForCommands() {
        x.addComet(5, 2, 10);
        x.addComet(6, 3, 12);
        x.addComet(7, 5, 14);
        x.passDays(5);
    }

    private static final String ERRORS = "The error position of a text that is not a program is the index of the first "
            + "character that cannot continue any program with the same preceding characters, or the length of the text "
            + "if the text is a proper prefix of a program.";

    private void errors() {
        String program = "comet 10 2 3;drop 4;turn 5 6;shine 7 8;day 9;vac 1 12;rate 3";
        for (int length = 0; length <= program.length(); length++) {
            String prefix = program.substring(0, length);
            holds(ERRORS, () -> {
                if (prefix.matches(".*(comet 10 2 3|drop 4|turn 5 6|shine 7 8|day 9|vac 1 12?|rate 3)")) {
                    isProgram(prefix);
                } else {
                    errorAt(prefix, prefix.length());
                }
                if (prefix.length() < 60) {
                    errorAt(prefix + "!", prefix.length());
                }
                if (prefix.length() < 58) {
                    errorAt(prefix + "!;x", prefix.length());
                }
            });
        }
        goesOnWith("", "cdtsvr");
        goesOnWith("d", "ra");
        goesOnWith("c", "o");
        goesOnWith("da", "y");
        goesOnWith("day", " ");
        goesOnWith("day ", "0123456789");
        goesOnWith("day 1", "0123456789;");
        goesOnWith("day 12", ";");
        goesOnWith("day 12;", "cdtsvr");
        goesOnWith("day 12;d", "ra");
        goesOnWith("rate ", "0123456789");
        goesOnWith("rate 0", ";");
        goesOnWith("comet 1", "0123456789 ");
        goesOnWith("comet 12", " ");
        goesOnWith("comet 12 3", "0123456789 ");
        goesOnWith("comet 12 3 4", "0123456789;");
        goesOnWith("comet 12 34 56", ";");
        goesOnWith("vac 1 ", "0123456789");
        goesOnWith("vac 1 2", "0123456789;");
        goesOnWith("drop 7", "0123456789;");
        goesOnWith("turn 7", "0123456789 ");
        goesOnWith("shine 70", " ");
        goesOnWith("day 1;day 1;day 1;day 1;day 1;day 1;day 1;day 1;day 1;day 1", "0123456789;");
    }

    /** Behind the text, these characters go on with a program, and no other ones do. */
    private void goesOnWith(String text, String characters) {
        holds(ERRORS, () -> {
            for (char character = 0; character < 300; character++) {
                fresh();
                int error = text.length();
                if (characters.indexOf(character) >= 0) {
                    error++;
                }
                String longer = text + character;
                Object answer = Check.answerOf(() -> run(longer));
                if (answer.equals("IllegalArgumentException")) {
                    due("error position of '" + longer + "'", x.errorPosition(), error);
                } else {
                    due("'" + longer + "' is a program", error, longer.length());
                }
            }
        });
    }

    // ---- undo

    private void undo() {
        changes();
        undoing();
        wholeState();
        besidesTheState();
    }

    private void changes() {
        String methods = "The changing methods are addComet, remove, setPeriod, brighten, passDays, clean, setRate and run.";
        Check.Call[] changes = {() -> x.addComet(7, 9, 11), () -> x.remove(0), () -> x.setPeriod(0, 9),
            () -> x.brighten(0, 1), () -> x.passDays(1), () -> x.clean(4, 1), () -> x.setRate(5), () -> run("day 1")};
        for (int i = 0; i < changes.length; i++) {
            Check.Call change = changes[i];
            holds(methods, () -> {
                x.addComet(6, 4, 10);
                x.passDays(4);
                String before = state();
                change.make();
                due("something is different", state().equals(before), false);
                due("undo()", x.undo(), 2);
                due("state after undo()", state(), before);
            });
        }
        holds(methods, () -> {
            x.addComet(6, 4, 10);
            x.addComet(6, 4, 10);
            everyOtherCall();
            due("undo()", x.undo(), 1);
            due("cometCount()", x.cometCount(), 1);
            everyOtherCall();
            due("undo()", x.undo(), 0);
            due("cometCount()", x.cometCount(), 0);
        });
    }

    /** All calls but the changing ones, undo and restore. */
    private void everyOtherCall() {
        Check.Call[] calls = {() -> everything(), () -> x.exists(0), () -> x.tail(0), () -> x.lastPass(0),
            () -> x.cometAtRank(0), () -> x.passesIn(60), () -> x.nextMeeting(0, 1),
            () -> x.nextMeetingByRemainders(0, 1), () -> x.alignment(), () -> x.bestWorth(60),
            () -> x.bestWorthByDays(60), () -> x.fewestPasses(60), () -> x.gain(0, 12), () -> x.bestGain(),
            () -> x.bestGainByArcs(), () -> x.bestStart(), () -> x.bestPlaces(), () -> x.dustTotal(),
            () -> x.meanBrightness(), () -> x.dustyShare(), () -> x.isConsistent(), () -> x.append('d'),
            () -> x.writeComet(0), () -> x.writeRing()};
        for (Check.Call call : calls) {
            Check.answerOf(call);
        }
        x.save();
    }

    private void undoing() {
        String undone = "Each successful call of them can be undone, also if nothing is different after it; "
                + "at most the 8 most recent ones, the most recent one first.";
        holds(undone, () -> {
            x.addComet(6, 4, 10);
            x.setRate(0);
            x.setRate(0);
            x.setPeriod(0, 6);
            x.clean(0, 12);
            run("rate 0");
            run("rate 1;rate 0");
            for (int left = 6; left >= 2; left--) {
                due("undo() of what changed nothing", x.undo(), left);
                due("rate()", x.rate(), 0);
            }
            due("undo() of setRate", x.undo(), 1);
            due("rate()", x.rate(), 2);
            due("undo() of addComet", x.undo(), 0);
            throwing(STATE, () -> x.undo());
        });
        for (int calls = 0; calls <= 20; calls++) {
            int made = calls;
            holds(undone, () -> {
                for (int i = 0; i < made; i++) {
                    x.passDays(1 + i);
                }
                int day = x.day();
                for (int i = 0; i < Math.min(made, 8); i++) {
                    due("undo() after " + made, x.undo(), Math.min(made, 8) - 1 - i);
                    day -= made - i;
                    due("day()", x.day(), day);
                }
                refused(STATE, () -> x.undo());
            });
        }
        holds(undone, () -> {
            for (int i = 1; i <= 8; i++) {
                x.setRate(i);
            }
            due("undo()", x.undo(), 7);
            due("rate()", x.rate(), 7);
            x.setRate(9);
            due("undo() of the eighth call again", x.undo(), 7);
            due("rate()", x.rate(), 7);
            x.undo();
            x.undo();
            x.setRate(0);
            due("undo() does not come back", x.undo(), 5);
            due("rate()", x.rate(), 5);
        });
        holds(undone, () -> {
            x.setRate(1);
            throwing(ARGUMENT, () -> x.setRate(10));
            throwing(UNSUPPORTED, () -> run("rate 3;day 0"));
            throwing(ARGUMENT, () -> run("rate 3;"));
            due("undo() of the successful call", x.undo(), 0);
            due("rate()", x.rate(), 2);
        });
    }

    private static final String WHOLE = "Undo, save and restore concern the whole state, including the next id, except "
            + "the text buffer, the error position, the failed command and the output line.";

    private void wholeState() {
        holds(WHOLE, () -> {
            makeHistory();
            String before = state();
            due("run() of many changes", run("day 60;rate 9;vac 4 3;shine 2 1;turn 2 9;drop 3;comet 9 9 9"), 7);
            due("the next id", x.addComet(2, 1, 1), 5);
            x.undo();
            x.undo();
            due("state after undo()", state(), before);
            due("the next id", x.addComet(2, 1, 1), 4);
        });
        holds(WHOLE, () -> {
            makeHistory();
            String before = state();
            x.save();
            run("day 60;rate 9;vac 4 3;shine 2 1;turn 2 9;drop 3;comet 9 9 9");
            x.addComet(2, 1, 1);
            x.restore();
            due("state after restore()", state(), before);
            due("the next id", x.addComet(2, 1, 1), 4);
            x.passDays(60);
            x.restore();
            due("state after restore() again", state(), before);
        });
        holds(WHOLE, () -> {
            x.save();
            makeHistory();
            x.restore();
            due("state after restore()", state(), "0 20 2 0 0 0: 0 0 0 0 0 0 0 0 0 0 0 0");
            due("the next id", x.addComet(2, 1, 1), 0);
        });
    }

    /** Four comets, of which one is burnt out and one has passed; dust, accounts, coins and rate. */
    private void makeHistory() {
        x.addComet(6, 4, 10);
        x.addComet(2, 1, 1);
        x.addComet(60, 5, 5);
        x.addComet(60, 60, 2);
        x.passDays(6);
        x.clean(4, 1);
        x.setRate(1);
        due("state", state(), "6 28 1 3 1 6: 0 1 0 0 0 5 0 0 0 0 0 0 #0 6 9 10 1 #2 60 4 65 1 #3 60 2 60 0");
    }

    private void besidesTheState() {
        holds(WHOLE, () -> {
            x.setRate(3);
            throwing(ARGUMENT, () -> run("day 12x"));
            throwing(UNSUPPORTED, () -> run("day 1;day 2;day 0"));
            x.writeRing();
            type("day 1");
            due("undo()", x.undo(), 0);
            due("errorPosition()", x.errorPosition(), 6);
            due("failedCommand()", x.failedCommand(), 2);
            due("the output line", line(), "0,0,0,0,0,0,0,0,0,0,0,0");
            due("the text buffer", x.run(), 1);
        });
        holds(WHOLE, () -> {
            throwing(ARGUMENT, () -> run("day 12x"));
            throwing(UNSUPPORTED, () -> run("day 0"));
            x.addComet(2, 1, 1);
            x.writeComet(0);
            type("rate 5");
            x.save();
            due("the text buffer", x.run(), 1);
            throwing(ARGUMENT, () -> run("x"));
            throwing(UNSUPPORTED, () -> run("day 1;day 0"));
            x.writeRing();
            type("day 1");
            x.restore();
            due("errorPosition()", x.errorPosition(), 0);
            due("failedCommand()", x.failedCommand(), 1);
            due("the output line", line(), "0,0,0,0,0,0,0,0,0,0,0,0");
            due("the text buffer", x.run(), 1);
            due("day()", x.day(), 1);
        });
        holds(WHOLE, () -> {
            x.addComet(6, 4, 10);
            x.save();
            x.addComet(6, 4, 10);
            x.undo();
            x.undo();
            x.restore();
            due("undo() leaves what was saved", x.cometCount(), 1);
        });
    }

    // ---- exceptions

    private static final String NOTHING = "If a call throws an exception, nothing changes, except that run empties "
            + "the text buffer and stores the error position or the failed command.";

    private void exceptions() {
        refusedChanges();
        refusedQueries();
        refusedRuns();
        severalConditions();
    }

    private void refusedChanges() {
        refusedChange(ARGUMENT, () -> x.addComet(2, 0, 1));
        refusedChange(ELEMENT, () -> x.remove(9));
        refusedChange(ELEMENT, () -> x.setPeriod(9, 2));
        refusedChange(ARGUMENT, () -> x.setPeriod(0, 61));
        refusedChange(ELEMENT, () -> x.brighten(9, 1));
        refusedChange(ARGUMENT, () -> x.brighten(0, 0));
        refusedChange(STATE, () -> x.brighten(0, 19));
        refusedChange(UNSUPPORTED, () -> x.brighten(0, 10));
        refusedChange(ARGUMENT, () -> x.passDays(61));
        refusedChange(INDEX, () -> x.clean(12, 1));
        refusedChange(ARGUMENT, () -> x.clean(0, 13));
        refusedChange(STATE, () -> x.clean(6, 10));
        refusedChange(ARGUMENT, () -> x.setRate(10));
        holds(NOTHING, () -> {
            addAll(6);
            refused(STATE, () -> x.addComet(2, 1, 1));
            due("undo()", x.undo(), 5);
            due("the next id", x.addComet(2, 1, 1), 5);
        });
        holds(NOTHING, () -> {
            x.setRate(4);
            throwingRestore();
            due("undo() after a refused restore()", x.undo(), 0);
            refused(STATE, () -> x.undo());
        });
    }

    /** What cannot be asked stays too: the text buffer, the calls to undo, what is saved, the next id. */
    private void refusedChange(Class<?> thrown, Check.Call call) {
        holds(NOTHING, () -> {
            x.addComet(6, 4, 10);
            x.passDays(4);
            x.setRate(4);
            x.writeComet(0);
            type("rate ");
            refused(thrown, call);
            due("the text buffer", x.append('1'), 6);
            due("undo()", x.undo(), 2);
            due("rate()", x.rate(), 2);
            throwingRestore();
            due("the next id", x.addComet(2, 1, 1), 1);
        });
    }

    private void throwingRestore() {
        throwing(STATE, () -> {
            x.restore();
            return 0;
        });
    }

    private void refusedQueries() {
        holds(NOTHING, () -> {
            x.addComet(6, 4, 10);
            x.writeComet(0);
            refused(ELEMENT, () -> x.period(1), () -> x.brightness(1), () -> x.tail(1), () -> x.nextPass(1),
                    () -> x.passesOf(1), () -> x.lastPass(1), () -> x.nextMeeting(0, 1),
                    () -> x.nextMeetingByRemainders(1, 0), () -> x.errorPosition(), () -> x.failedCommand(),
                    () -> x.writeComet(1));
            refused(INDEX, () -> x.cometAt(1), () -> x.cometAtRank(1), () -> x.dust(12), () -> x.gain(12, 1),
                    () -> x.outputAt(99));
            refused(ARGUMENT, () -> x.passesIn(61), () -> x.nextMeeting(0, 0), () -> x.nextMeetingByRemainders(0, 0),
                    () -> x.bestWorth(61), () -> x.bestWorthByDays(61), () -> x.fewestPasses(61), () -> x.gain(0, 13));
            due("undo()", x.undo(), 0);
        });
        holds(NOTHING, () -> refused(ARITHMETIC, () -> x.alignment(), () -> x.meanBrightness()));
    }

    private void refusedRuns() {
        holds(NOTHING, () -> {
            x.setRate(5);
            x.writeRing();
            String before = state();
            throwing(ARGUMENT, () -> run("day 1;rate 7;day"));
            due("errorPosition()", x.errorPosition(), 16);
            throwing(ELEMENT, () -> x.failedCommand());
            due("state", state(), before);
            due("the output line", line(), "0,0,0,0,0,0,0,0,0,0,0,0");
            due("the text buffer", x.append('d'), 1);
            due("undo()", x.undo(), 0);
        });
        holds(NOTHING, () -> {
            x.setRate(5);
            x.writeRing();
            String before = state();
            throwing(UNSUPPORTED, () -> run("comet 2 1 1;day 1;rate 7;day 0"));
            due("failedCommand()", x.failedCommand(), 3);
            throwing(ELEMENT, () -> x.errorPosition());
            due("state", state(), before);
            due("the output line", line(), "0,0,0,0,0,0,0,0,0,0,0,0");
            due("the text buffer", x.append('d'), 1);
            due("undo()", x.undo(), 0);
            due("the next id", x.addComet(2, 1, 1), 0);
        });
        holds(NOTHING, () -> {
            x.addComet(2, 1, 1);
            x.save();
            throwing(UNSUPPORTED, () -> run("drop 0;day 0"));
            x.restore();
            due("what was saved", x.cometCount(), 1);
        });
    }

    private void severalConditions() {
        String first = "If several conditions of a method apply, the exception that is listed first is thrown.";
        holds(first, () -> {
            addAll(6);
            refused(ARGUMENT, () -> x.addComet(1, 1, 1), () -> x.addComet(2, 0, 1), () -> x.addComet(2, 1, 21));
        });
        holds(first, () -> refused(ELEMENT, () -> x.setPeriod(0, 1), () -> x.setPeriod(-1, 61)));
        holds(first, () -> {
            x.addComet(6, 4, 14);
            x.remove(x.addComet(6, 4, 1));
            refused(ELEMENT, () -> x.brighten(1, 0), () -> x.brighten(1, 20), () -> x.brighten(1, 19));
            refused(ARGUMENT, () -> x.brighten(0, 20), () -> x.brighten(0, Integer.MAX_VALUE));
            refused(STATE, () -> x.brighten(0, 8), () -> x.brighten(0, 19));
            x.addComet(6, 4, 1);
            refused(UNSUPPORTED, () -> x.brighten(2, 8), () -> x.brighten(2, 19));
        });
        holds(first, () -> refused(INDEX, () -> x.clean(12, 0), () -> x.clean(-1, 13), () -> x.clean(12, 12),
                () -> x.gain(12, 0), () -> x.gain(-1, 13)));
        holds(first, () -> refused(ARGUMENT, () -> x.clean(0, 13), () -> x.clean(11, Integer.MAX_VALUE)));
        holds(first, () -> {
            x.addComet(2, 2, 1);
            x.addComet(2, 1, 1);
            refused(ELEMENT, () -> x.nextMeeting(2, 2), () -> x.nextMeetingByRemainders(2, 2),
                    () -> x.nextMeeting(0, 2), () -> x.nextMeetingByRemainders(2, 0));
            refused(ARGUMENT, () -> x.nextMeeting(1, 1), () -> x.nextMeetingByRemainders(1, 1));
            refused(UNSUPPORTED, () -> x.nextMeeting(0, 1), () -> x.nextMeetingByRemainders(0, 1));
        });
        holds(first, () -> {
            throwing(ARGUMENT, () -> run("day 0;day"));
            throwing(ELEMENT, () -> x.failedCommand());
        });
    }

    private void divisions() {
        holds("All divisions of integers are rounded down.", () -> {
            due("tail at 4", x.tail(x.addComet(2, 11, 4)), 1);
            due("tail at 9", x.tail(x.addComet(5, 1, 9)), 2);
            due("tail at 19", x.tail(x.addComet(60, 1, 19)), 4);
            x.passDays(11);
            due("passes until day 11", x.passesOf(1), 3);
            due("passesIn(4) of periods 2, 5 and 60", x.passesIn(4), 2);
            due("passesIn(5) of periods 2, 5 and 60", x.passesIn(5), 3);
        });
    }
}
