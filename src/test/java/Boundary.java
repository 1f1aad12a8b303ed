import java.util.ArrayList;
import java.util.List;

/**
 * What the tests of the document's boundaries have in common: each tells the sentence that it looks
 * at, calls just inside its boundary and just outside it, and sees that a refused call changed nothing.
 *
 * <p>No object gets more than the 512 calls that the document allows: what is looked at is split
 * among fresh objects on which the same calls were made. The tests extend this class for its words
 * alone, because a class without a package can't be imported.
 */
abstract class Boundary {
    static final int UNKNOWN = -1;
    static final int BAD_VALUE = -2;
    static final int FULL = -3;
    static final int NOT_POSSIBLE = -4;
    static final int NONE = -5;
    static final int MIN = Integer.MIN_VALUE;
    static final int MAX = Integer.MAX_VALUE;

    static final int FORBID = 0;
    static final int ALLOW = 1;
    static final int REPEAL = 2;
    static final int HIVE = 6;

    /** Calls that bring a new object to where a test begins. */
    interface Run {
        void on(HiveBylaws x);
    }

    /** The call that a test is about. */
    interface Call {
        int on(HiveBylaws x);
    }

    private static final Run PERFORMED = HiveBylaws::perform;

    /** What comes behind a call, so that what can't be told at once is told: the history, the snapshot, the text. */
    private static final Run[] SEQUELS = {
        x -> {},
        x -> undo(x, 1),
        x -> undo(x, 2),
        x -> undo(x, 3),
        x -> undo(x, 4),
        HiveBylaws::restore,
        PERFORMED,
        x -> x.pass(60),
    };

    private static final int PARTS = 4;
    private static final int MOST_BYLAWS_LOOKED_AT = 30;

    private static String sentence = "";

    /** From here on the tests are about these words of the document. */
    static void sentence(String words) {
        sentence = words;
    }

    static void due(String what, long got, long want) {
        Check.due("'" + sentence + "' " + what, got, want);
    }

    static void holds(String what, boolean held) {
        Check.holds("'" + sentence + "' " + what, held);
    }

    static HiveBylaws after(Run run) {
        HiveBylaws x = new HiveBylaws();
        run.on(x);
        return x;
    }

    /** A hive of this mood, with seasons of so many days, and with drones: a comb and a weight each. */
    static Run hive(int mood, int days, int... combsAndWeights) {
        return x -> {
            x.set(0, mood);
            x.set(1, days);
            for (int i = 0; i + 1 < combsAndWeights.length; i += 2) {
                x.come(combsAndWeights[i], combsAndWeights[i + 1]);
            }
        };
    }

    /** So many drones of one weight, all at one comb. */
    static Run swarm(int mood, int days, int drones, int comb, int weight) {
        return then(hive(mood, days), x -> {
            for (int i = 0; i < drones; i++) {
                x.come(comb, weight);
            }
        });
    }

    static Run then(Run... runs) {
        return x -> {
            for (Run run : runs) {
                run.on(x);
            }
        };
    }

    /** Petitions of a drone each: drone, comb, doing, kind. */
    static Run petitions(int... rows) {
        return x -> {
            for (int i = 0; i + 3 < rows.length; i += 4) {
                x.petition(rows[i], rows[i + 1], rows[i + 2], rows[i + 3]);
            }
        };
    }

    /** Petitions of the first drones, each for its comb, about a doing of its own. */
    static Run petitionsOfAll(int drones) {
        return x -> {
            for (int i = 0; i < drones; i++) {
                x.petition(i, x.drone(i, 0), i, FORBID);
            }
        };
    }

    static Run allSecond(int petition) {
        return x -> {
            for (int i = 0; i < 12; i++) {
                x.second(i, petition);
            }
        };
    }

    static Run days(int days) {
        return x -> x.pass(days);
    }

    static Run text(String text) {
        return x -> {
            x.clearText();
            for (int i = 0; i < text.length(); i++) {
                x.type(text.charAt(i));
            }
        };
    }

    /** The day 99990; 67 texts of 1485 days each, and five times 99 days. */
    static Run nearTheLastDay() {
        return x -> {
            text(".99;.99;.99;.99;.99;.99;.99;.99;.99;.99;.99;.99;.99;.99;.99").on(x);
            for (int i = 0; i < 67; i++) {
                x.perform();
            }
            for (int i = 0; i < 5; i++) {
                x.pass(99);
            }
            x.clearText();
        };
    }

    /** A call just inside a boundary, behind these calls. */
    static void inside(String what, Run run, Call call, int want) {
        due(what, call.on(after(run)), want);
    }

    /** A call that is refused, or that answers NONE: nothing changes by it. */
    static void outside(String what, Run run, Call call, int want) {
        due(what, call.on(after(run)), want);
        unchanged(what, run, call, true);
    }

    /** A text that is stopped: nothing changes by it but the latest stop. */
    static void stopping(String what, Run run, int number, int error) {
        due(what, after(run).perform(), NOT_POSSIBLE);
        HiveBylaws x = after(run);
        x.perform();
        due(what + ": number", x.stopped(0), number);
        due(what + ": error", x.stopped(1), error);
        unchanged(what, run, HiveBylaws::perform, false);
    }

    /** All that can be told is the same with the call as without it, and so is what comes behind it. */
    static void unchanged(String what, Run run, Call call, boolean withStop) {
        for (int sequel = 0; sequel < SEQUELS.length; sequel++) {
            boolean stopIsTold = withStop || SEQUELS[sequel] == PERFORMED;
            for (int part = 0; part < PARTS; part++) {
                HiveBylaws without = after(then(run, SEQUELS[sequel]));
                HiveBylaws with = after(then(run, call::on, SEQUELS[sequel]));
                List<Integer> due = told(without, part, stopIsTold);
                List<Integer> got = told(with, part, stopIsTold);
                holds(what + ": nothing changes, sequel " + sequel + ", part " + part, got.equals(due));
            }
        }
        List<Integer> due = askedAgain(after(run));
        List<Integer> got = askedAgain(after(then(run, call::on)));
        holds(what + ": the queen has the same in mind", got.equals(due));
    }

    private static void undo(HiveBylaws x, int times) {
        for (int i = 0; i < times; i++) {
            x.undo();
        }
    }

    private static List<Integer> told(HiveBylaws x, int part, boolean withStop) {
        List<Integer> answers = new ArrayList<>();
        switch (part) {
            case 0:
                tellSwarm(x, answers, withStop);
                break;
            case 1:
                tellRules(x, answers, 0, 2);
                break;
            case 2:
                tellRules(x, answers, 3, 5);
                break;
            default:
                tellBylaws(x, answers);
        }
        return answers;
    }

    private static void tellSwarm(HiveBylaws x, List<Integer> answers, boolean withStop) {
        for (int what = 0; what <= 15; what++) {
            answers.add(x.count(what));
        }
        answers.add(x.free());
        answers.add(x.wouldPass());
        for (int what = 0; what <= 1 && withStop; what++) {
            answers.add(x.stopped(what));
        }
        for (int i = 0; i < 12; i++) {
            answers.add(x.heard(i));
            answers.add(x.reason(i));
            answers.add(x.lacks(i));
            answers.add(x.oldest(i, 0));
            answers.add(x.oldest(i, 1));
            for (int what = 0; what <= 6; what++) {
                answers.add(x.drone(i, what));
            }
            for (int what = 0; what <= 5; what++) {
                answers.add(x.petitionOf(i, what));
            }
        }
    }

    private static void tellRules(HiveBylaws x, List<Integer> answers, int firstComb, int lastComb) {
        for (int comb = firstComb; comb <= lastComb; comb++) {
            for (int doing = 0; doing < 20; doing++) {
                for (int what = 0; what <= 2; what++) {
                    answers.add(x.rule(comb, doing, what));
                }
            }
        }
    }

    private static void tellBylaws(HiveBylaws x, List<Integer> answers) {
        for (int rank = 0; rank < MOST_BYLAWS_LOOKED_AT && x.bylaw(rank, 0) != NONE; rank++) {
            for (int what = 0; what <= 5; what++) {
                answers.add(x.bylaw(rank, what));
            }
        }
    }

    /** What she refused ahead is told by a petition for it alone. */
    private static List<Integer> askedAgain(HiveBylaws x) {
        List<Integer> answers = new ArrayList<>();
        int drone = Integer.numberOfTrailingZeros(x.free());
        int petition = x.count(6);
        x.set(0, 0);
        for (int place : new int[] {x.drone(drone, 0), HIVE}) {
            for (int doing = 0; doing < 3; doing++) {
                for (int kind = FORBID; kind <= REPEAL; kind++) {
                    if (x.petition(drone, place, doing, kind) >= 0) {
                        answers.add(x.reason(petition));
                        answers.add(x.lacks(petition));
                        x.undo();
                    }
                }
            }
        }
        return answers;
    }
}
