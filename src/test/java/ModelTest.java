import java.util.Random;

/** Long runs of calls, the same on the program and on the model: every answer has to be the same. */
public final class ModelTest {
    private static final int RUNS = 6000;
    private static final int CALLS = 512;
    private static final int[] reasons = new int[6];
    private static int performed = 0;
    private static int stopped = 0;
    private static int lacked = 0;
    private static final int[] FAR = {Integer.MIN_VALUE, Integer.MAX_VALUE, -100, -1, 12, 60, 61, 100, 1 << 20};

    private final Random random;
    private final HiveBylaws program = new HiveBylaws();
    private final Model model = new Model();

    /** How many doings and combs the run uses: few, so that bylaws and petitions meet. */
    private final int doings;

    private final int combs;
    private final int wrongInHundred;

    /** Of three kinds, how many the run uses: with fewer, what was refused is asked for again. */
    private final int kinds;

    /** Some petitions of late, which are made again at times: so the queen meets what she refused. */
    private final int[][] latest = new int[4][4];

    private ModelTest(int run) {
        random = new Random(run);
        doings = run % 3 == 0 ? 20 : 1 + random.nextInt(4);
        combs = run % 4 == 0 ? 6 : 1 + random.nextInt(2);
        wrongInHundred = run % 5;
        kinds = 1 + random.nextInt(3);
    }

    public static void main(String[] args) {
        for (int run = 0; run < RUNS; run++) {
            new ModelTest(run).play(run);
        }
        // The runs are worth nothing if they do not come to what the document tells.
        for (int reason = 0; reason <= 5; reason++) {
            System.out.println("reason " + reason + " was answered " + reasons[reason] + " times");
            Check.holds("reason " + reason + " is answered often", reasons[reason] > 500);
        }
        Check.holds("texts are performed", performed > 1000);
        Check.holds("texts are stopped", stopped > 1000);
        Check.holds("support is lacked", lacked > 1000);
        Check.end();
    }

    private void play(int run) {
        int opening = 2 + random.nextInt(11);
        int calls = 0;
        same(run, "set", program.set(1, 1 + run % 4), model.set(1, 1 + run % 4));
        same(run, "set", program.set(0, run % 7), model.set(0, run % 7));
        for (; calls < opening; calls++) {
            int comb = random.nextInt(combs);
            int weight = 1 + random.nextInt(9);
            same(run, "come", program.come(comb, weight), model.come(comb, weight));
        }
        while (calls < CALLS - 64) {
            calls += step(run);
        }
    }

    private void same(int run, String call, int got, int want) {
        Check.due("run " + run + ": " + call, got, want);
    }

    private int pick(int least, int most) {
        if (random.nextInt(100) < wrongInHundred) {
            return random.nextBoolean() ? FAR[random.nextInt(FAR.length)] : random.nextBoolean() ? least - 1 : most + 1;
        }
        return least + random.nextInt(most - least + 1);
    }

    private int aDrone() {
        return pick(0, Math.max(0, model.count(3) - 1));
    }

    private int aPetition() {
        return pick(0, Math.max(0, model.count(6) - 1));
    }

    /** One act, or one question, or a whole text. Answers how many calls it was. */
    private int step(int run) {
        int dice = random.nextInt(100);
        if (dice < 45) {
            act(run);
            return 1;
        }
        if (dice < 92) {
            ask(run);
            return 1;
        }
        return write(run);
    }

    private void act(int run) {
        int drone = aDrone();
        int dice = random.nextInt(40);
        if (dice < 13) {
            int home = model.drone(drone, 0);
            int comb = random.nextInt(3) == 0 ? 6 : home >= 0 && random.nextInt(8) > 0 ? home : pick(0, 6);
            int doing = random.nextInt(20) == 0 ? pick(0, 19) : random.nextInt(doings);
            int kind = pick(0, kinds - 1);
            int old = random.nextInt(latest.length);
            if (random.nextInt(3) == 0) {
                drone = latest[old][0];
                comb = latest[old][1];
                doing = latest[old][2];
                kind = latest[old][3];
            }
            latest[old] = new int[] {drone, comb, doing, kind};
            String call = "petition(" + drone + ", " + comb + ", " + doing + ", " + kind + ")";
            same(run, call, program.petition(drone, comb, doing, kind), model.petition(drone, comb, doing, kind));
        } else if (dice < 25) {
            int petition = aPetition();
            same(run, "second(" + drone + ", " + petition + ")", program.second(drone, petition), model.second(drone, petition));
        } else if (dice < 31) {
            int days = random.nextInt(4) == 0 ? pick(1, 99) : 1;
            same(run, "pass(" + days + ")", program.pass(days), model.pass(days));
        } else if (dice < 34) {
            int comb = random.nextInt(combs);
            same(run, "move(" + drone + ", " + comb + ")", program.move(drone, comb), model.move(drone, comb));
        } else {
            rareAct(run, drone, dice);
        }
    }

    private void rareAct(int run, int drone, int dice) {
        int comb = pick(0, 5);
        int weight = pick(1, 9);
        switch (dice) {
            case 34 -> same(run, "come(" + comb + ", " + weight + ")", program.come(comb, weight), model.come(comb, weight));
            case 35 -> same(run, "move(" + drone + ", " + comb + ")", program.move(drone, comb), model.move(drone, comb));
            case 36 -> {
                int which = pick(0, 1);
                int value = random.nextInt(8) == 0 ? pick(0, 60) : random.nextInt(12);
                same(run, "set(" + which + ", " + value + ")", program.set(which, value), model.set(which, value));
            }
            case 37 -> same(run, "undo()", program.undo(), model.undo());
            case 38 -> same(run, "keep()", program.keep(), model.keep());
            default -> {
                if (random.nextInt(3) == 0) {
                    same(run, "restore()", program.restore(), model.restore());
                } else {
                    same(run, "undo()", program.undo(), model.undo());
                }
            }
        }
    }

    private void ask(int run) {
        int drone = aDrone();
        int petition = aPetition();
        int what = pick(0, 6);
        int rank = pick(0, 8);
        int comb = pick(0, 5);
        int doing = random.nextInt(3) == 0 ? pick(0, 19) : random.nextInt(doings);
        switch (random.nextInt(12)) {
            case 0 -> same(run, "drone(" + drone + ", " + what + ")", program.drone(drone, what), model.drone(drone, what));
            case 1 -> same(run, "bylaw(" + rank + ", " + what + ")", program.bylaw(rank, what), model.bylaw(rank, what));
            case 2 -> same(run, "petitionOf(" + petition + ", " + what + ")",
                    program.petitionOf(petition, what), model.petitionOf(petition, what));
            case 3 -> same(run, "heard(" + rank + ")", program.heard(rank), model.heard(rank));
            case 4 -> {
                int of = pick(0, 2);
                same(run, "rule(" + comb + ", " + doing + ", " + of + ")", program.rule(comb, doing, of), model.rule(comb, doing, of));
            }
            case 5, 6 -> {
                int reason = program.reason(petition);
                if (reason >= 0 && reason <= 5) {
                    reasons[reason]++;
                }
                same(run, "reason(" + petition + ")", reason, model.reason(petition));
            }
            case 7 -> same(run, "wouldPass()", program.wouldPass(), model.wouldPass());
            case 8 -> {
                int lack = program.lacks(petition);
                lacked += lack > 0 ? 1 : 0;
                same(run, "lacks(" + petition + ")", lack, model.lacks(petition));
            }
            case 9 -> same(run, "free()", program.free(), model.free());
            case 10 -> {
                int of = pick(0, 1);
                same(run, "oldest(" + drone + ", " + of + ")", program.oldest(drone, of), model.oldest(drone, of));
            }
            default -> {
                int of = pick(0, 15);
                same(run, "count(" + of + ")", program.count(of), model.count(of));
            }
        }
    }

    private int write(int run) {
        String text = aText();
        int calls = 3;
        if (random.nextInt(6) > 0) {
            same(run, "clearText()", program.clearText(), model.clearText());
        }
        for (int i = 0; i < text.length(); i++, calls++) {
            char character = text.charAt(i);
            same(run, "type(" + (int) character + ")", program.type(character), model.type(character));
        }
        int answer = program.perform();
        performed += answer > 0 ? 1 : 0;
        stopped += answer == -4 ? 1 : 0;
        same(run, "perform() of " + text, answer, model.perform());
        int what = pick(0, 1);
        same(run, "stopped(" + what + ")", program.stopped(what), model.stopped(what));
        return calls;
    }

    private String aText() {
        StringBuilder text = new StringBuilder();
        int things = 1 + random.nextInt(4);
        for (int i = 0; i < things; i++) {
            text.append(i > 0 ? ";" : "");
            int drone = Math.max(0, random.nextInt(8) == 0 ? random.nextInt(13) : aDrone());
            switch (random.nextInt(3)) {
                case 0 -> {
                    int home = Math.max(0, model.drone(drone, 0));
                    text.append('p').append(drone).append(':').append(random.nextInt(3) == 0 ? 6 : home);
                    text.append('.').append(random.nextInt(doings)).append("+-x".charAt(random.nextInt(3)));
                }
                case 1 -> text.append('y').append(drone).append(':').append(Math.max(0, aPetition()));
                default -> text.append('.').append(random.nextInt(4) == 0 ? random.nextInt(101) : 1);
            }
        }
        if (random.nextInt(4) == 0) {
            String signs = "py:.;+-x0123456789 P\u0100\uffff";
            char sign = signs.charAt(random.nextInt(signs.length()));
            int at = random.nextInt(text.length());
            switch (random.nextInt(3)) {
                case 0 -> text.setCharAt(at, sign);
                case 1 -> text.insert(at, sign);
                default -> text.setLength(at);
            }
        }
        return text.toString();
    }
}
