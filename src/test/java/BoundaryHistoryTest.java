/** The boundaries in the document's 'Terms': HISTORY, and ERRORS. */
public final class BoundaryHistoryTest extends Boundary {
    /** A drone at comb 2 that has petitioned, and one at comb 3. */
    private static final Run TWO = then(hive(0, 10, 2, 5, 3, 4), petitions(0, 2, 7, FORBID));

    public static void main(String[] args) {
        aHistoryOfAtMost4StatesIsKept();
        undoRemovesAndRestoresTheLatestOne();
        eachCallOfAnActRecordsTheStateThatWasBeforeIt();
        thereIsOneSnapshotEmptyAtFirst();
        aStateIsEverythingButTheTextTheHistoryTheSnapshotAndTheLatestStop();
        theOrderOfTheReturnLineIsTheOrderOfTheChecks();
        noneIsReturnedOnlyIfNoErrorApplies();
        aCallThatReturnsAnErrorOrNoneChangesNothing();
        theConstants();
        Check.end();
    }

    private static Run moods(int times) {
        return x -> {
            for (int i = 0; i < times; i++) {
                x.set(0, 10 + i);
            }
        };
    }

    private static void aHistoryOfAtMost4StatesIsKept() {
        sentence("A history of at most 4 states is kept; when one more is recorded, the oldest one is dropped");
        for (int acts = 0; acts <= 13; acts++) {
            int kept = Math.min(acts, 4);
            int made = acts;
            inside(acts + " acts: states", moods(acts), x -> x.count(14), kept);
            inside(acts + " acts: all can be undone", moods(acts), x -> {
                for (int i = 0; i < kept; i++) {
                    x.undo();
                }
                return x.count(12);
            }, made <= 4 ? 5 : 10 + made - 5);
            outside(acts + " acts: no more than that", then(moods(acts), x -> undone(x, kept)), HiveBylaws::undo, NONE);
        }
        Run turned = then(moods(6), x -> undone(x, 3), moods(2));
        inside("one left and two more", turned, x -> x.count(14), 3);
        inside("the first of the two", then(turned, x -> undone(x, 1)), x -> x.count(12), 10);
        inside("the oldest one of them", then(turned, x -> undone(x, 3)), x -> x.count(12), 11);
    }

    private static void undone(HiveBylaws x, int times) {
        for (int i = 0; i < times; i++) {
            x.undo();
        }
    }

    private static void undoRemovesAndRestoresTheLatestOne() {
        sentence("undo() removes and restores the latest one.");
        outside("of an empty history", x -> {}, HiveBylaws::undo, NONE);
        inside("of one", moods(1), HiveBylaws::undo, 0);
        inside("of one: restored", then(moods(1), x -> x.undo()), x -> x.count(12), 5);
        outside("of none that is left", then(moods(1), x -> x.undo()), HiveBylaws::undo, NONE);
        inside("of four", moods(4), HiveBylaws::undo, 3);
        inside("of four: the latest", then(moods(4), x -> x.undo()), x -> x.count(12), 12);
        inside("of five", moods(5), HiveBylaws::undo, 3);
        inside("it is no act", then(moods(3), x -> x.undo()), x -> x.count(14), 2);
    }

    /** The act changes this, records one state, and is undone by one undo. */
    private static void act(String what, Run run, Call act, int want) {
        inside(what, run, act, want);
        HiveBylaws x = after(run);
        int states = x.count(14);
        act.on(x);
        due(what + ": states", x.count(14), Math.min(states + 1, 4));
        // With four states an undo behind the act has dropped the oldest one; so look behind one undo ahead.
        Run fewer = then(run, y -> y.undo(), y -> y.undo());
        unchanged(what + " and undo", fewer, y -> {
            int before = y.count(14);
            int answer = act.on(y);
            return y.count(14) > before ? y.undo() : answer;
        }, false);
    }

    private static void eachCallOfAnActRecordsTheStateThatWasBeforeIt() {
        sentence("Each call of a method that is described as an act, and returns no error and not NONE,"
                + " records the state that was before it.");
        // What is undone ahead of the act is two of these settings.
        Run two = then(TWO, x -> x.set(0, 1), x -> x.set(0, 2));
        act("come", two, x -> x.come(0, 1), 2);
        act("move", two, x -> x.move(1, 0), 3);
        act("petition", two, x -> x.petition(1, 3, 7, FORBID), 1);
        act("second", two, x -> x.second(1, 0), 9);
        act("pass", two, x -> x.pass(10), 1);
        act("pass without a hearing", two, x -> x.pass(1), 0);
        act("set", two, x -> x.set(1, 1), 10);
        act("perform", then(two, text("y1:0;.10")), HiveBylaws::perform, 2);
        act("perform that does nothing new", then(TWO, x -> x.second(1, 0), x -> x.set(0, 1), x -> x.set(0, 2), text("y1:0")),
                HiveBylaws::perform, 1);
        act("restore", then(TWO, x -> x.keep(), x -> x.come(4, 4), x -> x.set(0, 1), x -> x.set(0, 2)), HiveBylaws::restore, 0);
        act("restore of the same", then(TWO, x -> x.set(0, 1), x -> x.set(0, 2), x -> x.undo(), x -> x.undo(), x -> x.keep(),
                x -> x.set(0, 1), x -> x.set(0, 2)), HiveBylaws::restore, 0);
        inside("type is none", then(moods(2), x -> x.type('p')), x -> x.count(14), 2);
        inside("clearText is none", then(moods(2), x -> x.clearText()), x -> x.count(14), 2);
        inside("keep is none", then(moods(2), x -> x.keep()), x -> x.count(14), 2);
        inside("a refused act", then(moods(2), x -> x.come(6, 1)), x -> x.count(14), 2);
        inside("an act that answers NONE", then(moods(2), x -> x.set(1, 10)), x -> x.count(14), 2);
        inside("one text of twenty things is one state", then(text(".1;.1;.1;.1;.1;.1;.1;.1;.1;.1;.1;.1;.1;.1;.1;.1;.1;.1;.1;.1"),
                x -> x.perform()), x -> x.count(14), 1);
    }

    private static void thereIsOneSnapshotEmptyAtFirst() {
        sentence("There is one snapshot, empty at first.");
        outside("empty at first", TWO, HiveBylaws::restore, NONE);
        inside("kept", TWO, HiveBylaws::keep, 0);
        Run kept = then(TWO, x -> x.keep(), x -> x.pass(10));
        inside("restored", kept, HiveBylaws::restore, 0);
        inside("restored: no day", then(kept, x -> x.restore()), x -> x.count(0), 0);
        inside("restored: the petition", then(kept, x -> x.restore()), x -> x.count(6), 1);
        Run twice = then(kept, x -> x.keep(), x -> x.pass(5));
        inside("the later one", twice, HiveBylaws::restore, 1);
        inside("the later one: day", then(twice, x -> x.restore()), x -> x.count(0), 10);
        inside("it stays", then(twice, x -> x.restore(), x -> x.come(0, 1)), HiveBylaws::restore, 1);
        inside("it stays: drones", then(twice, x -> x.restore(), x -> x.come(0, 1), x -> x.restore()), x -> x.count(3), 2);
        inside("it can be of a new hive", x -> x.keep(), HiveBylaws::restore, 0);
        inside("of a new hive: mood", x -> {
            x.keep();
            x.set(0, 9);
            x.restore();
        }, x -> x.count(12), 5);
    }

    private static void aStateIsEverythingButTheTextTheHistoryTheSnapshotAndTheLatestStop() {
        sentence("A state is everything but the text, the history, the snapshot and the latest stop.");
        Run kept = then(hive(0, 10, 2, 5), x -> x.keep(), x -> x.come(0, 1), text("p0:1.0+;.9"));
        inside("undo leaves the text", then(kept, x -> x.undo()), x -> x.count(15), 10);
        inside("restore leaves the text", then(kept, x -> x.restore()), x -> x.count(15), 10);
        inside("undo leaves the snapshot", then(kept, x -> x.undo(), x -> x.restore()), x -> x.count(3), 1);
        inside("undo of what was kept leaves the snapshot", then(kept, x -> undone(x, 4), x -> x.restore()), x -> x.count(3), 1);
        Run stop = then(kept, x -> x.perform());
        inside("a stop", stop, x -> x.stopped(1), NOT_POSSIBLE);
        inside("undo leaves the stop", then(stop, x -> x.undo()), x -> x.stopped(1), NOT_POSSIBLE);
        inside("restore leaves the stop", then(stop, x -> x.restore()), x -> x.stopped(1), NOT_POSSIBLE);
        inside("restore leaves the history, but for its own state", then(kept, x -> x.undo(), x -> x.restore()), x -> x.count(14), 3);
        inside("the states ahead of restore", then(kept, x -> x.restore(), x -> undone(x, 2)), x -> x.count(3), 1);
        // What is restored: a petition, a seconding, days, bylaws, what was refused, accounts, settings.
        Run full = then(hive(0, 2, 2, 5, 3, 4, 2, 1), petitions(0, 2, 1, FORBID, 1, HIVE, 2, ALLOW, 2, 2, 1, FORBID), days(2),
                petitions(0, 2, 1, REPEAL, 2, 2, 2, FORBID), x -> x.second(1, 0), days(1));
        // With four states the act would drop the oldest one, so some are taken back ahead of it.
        unchanged("days and undo", then(full, x -> undone(x, 2), x -> x.second(1, 0)), x -> {
            x.pass(2);
            return x.undo();
        }, true);
        Run twoLeft = then(full, x -> undone(x, 2));
        unchanged("much and undo", twoLeft, x -> {
            text("p1:6.2-;y0:1;.99;p0:6.5x;.2").on(x);
            x.perform();
            x.clearText();
            return x.undo();
        }, true);
    }

    private static void theOrderOfTheReturnLineIsTheOrderOfTheChecks() {
        sentence("Where several errors can apply, the order of the @return line is the order of the checks.");
        Run full = then(swarm(0, 10, 12, 2, 1), petitions(0, 2, 7, FORBID));
        outside("come: comb, weight, room", full, x -> x.come(6, 0), UNKNOWN);
        outside("come: comb, room", full, x -> x.come(-1, 1), UNKNOWN);
        outside("come: weight, room", full, x -> x.come(0, 10), BAD_VALUE);
        outside("come: room", full, x -> x.come(0, 1), FULL);
        outside("petition: drone, kind", full, x -> x.petition(12, 2, 0, 3), UNKNOWN);
        outside("petition: comb, kind, made", full, x -> x.petition(0, 7, 0, 3), UNKNOWN);
        outside("petition: doing, kind, made", full, x -> x.petition(0, 2, 20, -1), UNKNOWN);
        outside("petition: doing, another comb", full, x -> x.petition(1, 3, 20, 0), UNKNOWN);
        outside("petition: kind, made", full, x -> x.petition(0, 2, 0, 3), BAD_VALUE);
        outside("petition: kind, another comb", full, x -> x.petition(1, 3, 0, 3), BAD_VALUE);
        outside("petition: made, another comb", full, x -> x.petition(0, 3, 0, 0), NOT_POSSIBLE);
        outside("second: drone", full, x -> x.second(12, 0), UNKNOWN);
        outside("second: petition", full, x -> x.second(0, 1), UNKNOWN);
        outside("second: own", full, x -> x.second(0, 0), NOT_POSSIBLE);
        Run near = then(hive(0, 10, 0, 1), nearTheLastDay());
        outside("pass: days, the end", near, x -> x.pass(100), BAD_VALUE);
        outside("pass: no days, the end", then(near, days(9)), x -> x.pass(0), BAD_VALUE);
        outside("pass: the end", then(near, days(9)), x -> x.pass(1), FULL);
        outside("set: which, value", full, x -> x.set(2, 61), UNKNOWN);
        outside("set: which, a value of both", full, x -> x.set(-1, 5), UNKNOWN);
        outside("set: value", full, x -> x.set(1, 0), BAD_VALUE);
        outside("perform: fault, stop ahead of it", then(full, text("y0:0;p0")), HiveBylaws::perform, -107);
        outside("drone: drone, what", full, x -> x.drone(12, 7), UNKNOWN);
        outside("petitionOf: petition, what", full, x -> x.petitionOf(1, 6), UNKNOWN);
        outside("rule: comb, what", full, x -> x.rule(6, 0, 3), UNKNOWN);
        outside("rule: doing, what", full, x -> x.rule(0, 20, -1), UNKNOWN);
        outside("oldest: drone, what", full, x -> x.oldest(12, 2), UNKNOWN);
    }

    private static void noneIsReturnedOnlyIfNoErrorApplies() {
        sentence("NONE is no error; it is returned only if no error applies.");
        Run made = then(TWO, x -> x.second(1, 0));
        outside("move: lives there already", made, x -> x.move(0, 2), NONE);
        outside("move: no such comb", made, x -> x.move(0, 6), UNKNOWN);
        outside("second: already", made, x -> x.second(1, 0), NONE);
        outside("second: own", made, x -> x.second(0, 0), NOT_POSSIBLE);
        outside("set: so already", made, x -> x.set(0, 0), NONE);
        outside("set: out of range", made, x -> x.set(0, 61), BAD_VALUE);
        outside("stopped: nothing yet", made, x -> x.stopped(0), NONE);
        outside("stopped: what", made, x -> x.stopped(2), BAD_VALUE);
        outside("stopped: what -1", made, x -> x.stopped(-1), BAD_VALUE);
        outside("drone: no petition", made, x -> x.drone(1, 2), NONE);
        outside("drone: what", made, x -> x.drone(1, 7), BAD_VALUE);
        outside("bylaw: not so many", made, x -> x.bylaw(0, 5), NONE);
        outside("bylaw: what", made, x -> x.bylaw(0, 6), BAD_VALUE);
        outside("bylaw: rank", made, x -> x.bylaw(-1, 0), BAD_VALUE);
        outside("heard: not so many", made, x -> x.heard(1), NONE);
        outside("heard: rank", made, x -> x.heard(-1), BAD_VALUE);
        outside("rule: without one", made, x -> x.rule(2, 7, 1), NONE);
        outside("rule: strength without one", made, x -> x.rule(2, 7, 2), NONE);
        outside("rule: what", made, x -> x.rule(2, 7, 3), BAD_VALUE);
        outside("oldest: none", made, x -> x.oldest(0, 0), NONE);
        outside("oldest: what", made, x -> x.oldest(0, 2), BAD_VALUE);
        outside("lacks: no support serves", then(made, petitions(1, 3, 7, REPEAL)), x -> x.lacks(1), NONE);
        outside("lacks: no petition", made, x -> x.lacks(1), UNKNOWN);
    }

    private static void aCallThatReturnsAnErrorOrNoneChangesNothing() {
        sentence("A call that returns an error or NONE changes nothing (but for the latest stop of perform()).");
        Run kept = then(TWO, x -> x.keep(), x -> x.second(1, 0), x -> x.pass(1));
        stopping("what went ahead of the stop is not done", then(kept, text("p1:3.7+;y0:1;.10;y0:5;.1")), 3, UNKNOWN);
        stopping("stopped at once", then(kept, text("y0:0;.1")), 0, NOT_POSSIBLE);
        stopping("stopped at the end", then(kept, text("p1:6.1x;.99;p1:3.0-;p0:3.0-")), 3, NOT_POSSIBLE);
        outside("a fault", then(kept, text(".1;.")), HiveBylaws::perform, -104);
        Run stop = then(kept, text("p1:6.1x;y0:0"), x -> x.perform(), text(".1"), x -> x.perform(), text("."));
        inside("a text that goes leaves the stop", stop, x -> x.stopped(0), 1);
        outside("a fault leaves the stop", stop, HiveBylaws::perform, -101);
        Run full = then(kept, text(".1;.1;.1;.1;.1;.1;.1;.1;.1;.1;.1;.1;.1;.1;.1;.1;.1;.1;.1;.10"));
        outside("a full text", full, x -> x.type('0'), FULL);
    }

    private static void theConstants() {
        sentence("Errors are reported by the constants below.");
        due("UNKNOWN", HiveBylaws.UNKNOWN, UNKNOWN);
        due("BAD_VALUE", HiveBylaws.BAD_VALUE, BAD_VALUE);
        due("FULL", HiveBylaws.FULL, FULL);
        due("NOT_POSSIBLE", HiveBylaws.NOT_POSSIBLE, NOT_POSSIBLE);
        due("NONE", HiveBylaws.NONE, NONE);
    }
}
