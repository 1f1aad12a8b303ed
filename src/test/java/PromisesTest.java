/** Each promise of the document: ordinary inputs, the edges that it names, and wrong inputs. */
public final class PromisesTest {
    private static final int UNKNOWN = -1;
    private static final int BAD_VALUE = -2;
    private static final int FULL = -3;
    private static final int NOT_POSSIBLE = -4;
    private static final int NONE = -5;
    private static final int MIN = Integer.MIN_VALUE;
    private static final int MAX = Integer.MAX_VALUE;

    private static final int FORBID = 0;
    private static final int ALLOW = 1;
    private static final int REPEAL = 2;
    private static final int HIVE = 6;

    public static void main(String[] args) {
        constants();
        promise1();
        promise2();
        promise3();
        promise4();
        promise5();
        promise6Days();
        promise6Hearing();
        promise6Refusals();
        promise6TwelveRefusals();
        promise7();
        promise8and9();
        promise10Faults();
        promise10Acts();
        promise11();
        promise12();
        promise12Whole();
        promise13and14();
        promise15();
        promise16();
        promise16Least();
        promise16Twelve();
        promise17();
        promise18();
        promise19();
        promise20();
        promise20RefusedAhead();
        promise21();
        promise22();
        promise23();
        promise24();
        promise25();
        Check.end();
    }

    private static void due(String what, long got, long want) {
        Check.due(what, got, want);
    }

    private static HiveBylaws hive(int mood, int days, int... combsAndWeights) {
        HiveBylaws x = new HiveBylaws();
        x.set(0, mood);
        x.set(1, days);
        for (int i = 0; i + 1 < combsAndWeights.length; i += 2) {
            x.come(combsAndWeights[i], combsAndWeights[i + 1]);
        }
        return x;
    }

    private static void write(HiveBylaws x, String text) {
        x.clearText();
        for (int i = 0; i < text.length(); i++) {
            x.type(text.charAt(i));
        }
    }

    private static int performed(HiveBylaws x, String text) {
        write(x, text);
        return x.perform();
    }

    /** One season in which each of the petitions is made by the drone, seconded by nobody. */
    private static int season(HiveBylaws x, int drone, int comb, int doing, int kind) {
        x.petition(drone, comb, doing, kind);
        return x.pass(x.count(13) - x.count(2));
    }

    private static void constants() {
        due("UNKNOWN", HiveBylaws.UNKNOWN, -1);
        due("BAD_VALUE", HiveBylaws.BAD_VALUE, -2);
        due("FULL", HiveBylaws.FULL, -3);
        due("NOT_POSSIBLE", HiveBylaws.NOT_POSSIBLE, -4);
        due("NONE", HiveBylaws.NONE, -5);
    }

    private static void promise1() {
        HiveBylaws x = new HiveBylaws();
        for (int what = 0; what <= 15; what++) {
            due("1 new count(" + what + ")", x.count(what), what == 12 ? 5 : what == 13 ? 10 : 0);
        }
        due("1 new bylaw", x.bylaw(0, 0), NONE);
        due("1 new drone", x.drone(0, 0), UNKNOWN);
        due("1 new petitionOf", x.petitionOf(0, 0), UNKNOWN);
        due("1 new heard", x.heard(0), NONE);
        due("1 new free", x.free(), 0);
        due("1 new wouldPass", x.wouldPass(), 0);
        due("1 new undo", x.undo(), NONE);
        due("1 new restore", x.restore(), NONE);
        due("1 new stopped", x.stopped(0), NONE);
        due("1 new clearText", x.clearText(), 0);
        due("1 new rule", x.rule(0, 0, 0), 1);
        HiveBylaws other = new HiveBylaws();
        other.come(3, 3);
        due("1 another object is another hive", x.count(3), 0);
    }

    private static void promise2() {
        HiveBylaws x = new HiveBylaws();
        due("2 comb -1", x.come(-1, 1), UNKNOWN);
        due("2 comb 6", x.come(6, 1), UNKNOWN);
        due("2 comb least", x.come(MIN, 1), UNKNOWN);
        due("2 comb ahead of weight", x.come(6, 0), UNKNOWN);
        due("2 weight 0", x.come(0, 0), BAD_VALUE);
        due("2 weight 10", x.come(5, 10), BAD_VALUE);
        due("2 weight most", x.come(5, MAX), BAD_VALUE);
        due("2 errors record nothing", x.count(14), 0);
        for (int i = 0; i < 12; i++) {
            due("2 number", x.come(i % 6, 1 + i % 9), i);
        }
        due("2 known", x.count(3), 12);
        due("2 comb", x.drone(11, 0), 5);
        due("2 weight", x.drone(8, 1), 9);
        due("2 full", x.come(0, 1), FULL);
        due("2 comb ahead of full", x.come(6, 1), UNKNOWN);
        due("2 weight ahead of full", x.come(0, 10), BAD_VALUE);
        due("2 still known", x.count(3), 12);
        due("2 an act", x.undo(), 3);
        due("2 undone", x.count(3), 11);
        due("2 room again", x.come(2, 7), 11);
        due("2 new weight", x.drone(11, 1), 7);
    }

    private static void promise3() {
        HiveBylaws x = hive(0, 10, 1, 4, 2, 5);
        due("3 unknown drone", x.move(2, 0), UNKNOWN);
        due("3 negative drone", x.move(-1, 0), UNKNOWN);
        due("3 drone most", x.move(MAX, 0), UNKNOWN);
        due("3 comb 6", x.move(0, 6), UNKNOWN);
        due("3 comb -1", x.move(0, -1), UNKNOWN);
        due("3 lives there", x.move(0, 1), NONE);
        due("3 nothing recorded yet but the set and the comes", x.count(14), 3);
        x.petition(0, 1, 3, FORBID);
        due("3 previous", x.move(0, 5), 1);
        due("3 comb", x.drone(0, 0), 5);
        due("3 petition stays", x.petitionOf(0, 1), 1);
        due("3 petition is still its own", x.drone(0, 2), 0);
        due("3 back", x.move(0, 1), 5);
        due("3 an act", x.undo(), 3);
        due("3 undone", x.drone(0, 0), 5);
        x.pass(10);
        due("3 the bylaw is of the comb of the petition", x.rule(1, 3, 0), 0);
        due("3 and does not bind the new comb", x.rule(5, 3, 0), 1);
    }

    private static void promise4() {
        HiveBylaws x = hive(5, 2, 0, 4, 0, 3, 1, 9);
        due("4 unknown drone", x.petition(3, 0, 0, 0), UNKNOWN);
        due("4 negative drone", x.petition(-1, 0, 0, 0), UNKNOWN);
        due("4 comb 7", x.petition(0, 7, 0, 0), UNKNOWN);
        due("4 comb -1", x.petition(0, -1, 0, 0), UNKNOWN);
        due("4 doing 20", x.petition(0, 0, 20, 0), UNKNOWN);
        due("4 doing -1", x.petition(0, 0, -1, 0), UNKNOWN);
        due("4 doing ahead of kind", x.petition(0, 0, 20, 3), UNKNOWN);
        due("4 kind 3", x.petition(0, 0, 0, 3), BAD_VALUE);
        due("4 kind -1", x.petition(0, 0, 0, -1), BAD_VALUE);
        due("4 kind ahead of another comb", x.petition(0, 1, 0, 3), BAD_VALUE);
        due("4 another comb", x.petition(0, 1, 0, 0), NOT_POSSIBLE);
        due("4 no petition yet", x.count(7), 0);
        due("4 own comb", x.petition(0, 0, 19, ALLOW), 0);
        due("4 again", x.petition(0, 0, 18, FORBID), NOT_POSSIBLE);
        due("4 again for the hive", x.petition(0, HIVE, 18, FORBID), NOT_POSSIBLE);
        due("4 kind ahead of again", x.petition(0, 0, 0, 9), BAD_VALUE);
        due("4 for the hive", x.petition(2, HIVE, 0, REPEAL), 1);
        due("4 in the order of making", x.petition(1, 0, 0, FORBID), 2);
        due("4 made", x.count(6), 3);
        due("4 an act", x.undo(), 3);
        due("4 undone", x.count(6), 2);
        x.pass(2);
        due("4 next season from 0", x.petition(1, 0, 5, FORBID), 0);
        x.move(0, 4);
        due("4 the comb it lived at", x.petition(0, 0, 5, FORBID), NOT_POSSIBLE);
        due("4 the comb it lives at", x.petition(0, 4, 5, FORBID), 1);
    }

    private static void promise5() {
        HiveBylaws x = hive(5, 2, 0, 4, 0, 3, 1, 9);
        due("5 no petition", x.second(1, 0), UNKNOWN);
        x.petition(0, 0, 7, FORBID);
        due("5 unknown drone", x.second(3, 0), UNKNOWN);
        due("5 negative drone", x.second(-1, 0), UNKNOWN);
        due("5 petition 1", x.second(1, 1), UNKNOWN);
        due("5 petition -1", x.second(1, -1), UNKNOWN);
        due("5 petition most", x.second(1, MAX), UNKNOWN);
        due("5 own", x.second(0, 0), NOT_POSSIBLE);
        due("5 support then", x.second(1, 0), 7);
        due("5 already", x.second(1, 0), NONE);
        due("5 another comb", x.second(2, 0), 16);
        due("5 support", x.petitionOf(0, 4), 16);
        due("5 who", x.petitionOf(0, 5), 6);
        due("5 an act", x.undo(), 3);
        due("5 undone", x.petitionOf(0, 4), 7);
        x.petition(1, HIVE, 7, FORBID);
        due("5 a second petition", x.second(0, 1), 7);
        due("5 one who petitions seconds another", x.drone(0, 3), 2);
        x.pass(2);
        due("5 the season is over", x.second(2, 0), UNKNOWN);
        x.petition(0, 0, 7, FORBID);
        due("5 afresh in a new season", x.second(1, 0), 7);
    }

    private static void promise6Days() {
        HiveBylaws x = new HiveBylaws();
        due("6 days 0", x.pass(0), BAD_VALUE);
        due("6 days 100", x.pass(100), BAD_VALUE);
        due("6 days -1", x.pass(-1), BAD_VALUE);
        due("6 days least", x.pass(MIN), BAD_VALUE);
        due("6 days most", x.pass(MAX), BAD_VALUE);
        due("6 nothing passes", x.pass(9), 0);
        due("6 day", x.count(0), 9);
        due("6 season", x.count(1), 0);
        due("6 days of the season", x.count(2), 9);
        due("6 one more", x.pass(1), 0);
        due("6 next season", x.count(1), 1);
        due("6 its days", x.count(2), 0);
        due("6 many", x.pass(99), 0);
        due("6 day then", x.count(0), 109);
        due("6 seasons then", x.count(1), 10);
        due("6 days then", x.count(2), 9);
        due("6 an act", x.undo(), 2);
        due("6 undone", x.count(0), 10);
        HiveBylaws y = new HiveBylaws();
        // 15 things of 99 days each are 1485 days: 67 texts are 99495 days.
        write(y, ".99;.99;.99;.99;.99;.99;.99;.99;.99;.99;.99;.99;.99;.99;.99");
        for (int i = 0; i < 67; i++) {
            y.perform();
        }
        due("6 far", y.count(0), 99495);
        due("6 a text beyond the end", y.perform(), NOT_POSSIBLE);
        due("6 the thing beyond the end", y.stopped(0), 5);
        due("6 the error there", y.stopped(1), FULL);
        due("6 still", y.count(0), 99495);
        for (int i = 0; i < 5; i++) {
            y.pass(99);
        }
        due("6 near", y.count(0), 99990);
        due("6 beyond", y.pass(10), FULL);
        due("6 bad value ahead of full", y.pass(100), BAD_VALUE);
        due("6 still near", y.count(0), 99990);
        due("6 the last day", y.pass(9), 0);
        due("6 at the end", y.count(0), 99999);
        due("6 one beyond", y.pass(1), FULL);
        due("6 season at the end", y.count(1), 9999);
    }

    private static void promise6Hearing() {
        HiveBylaws x = hive(5, 3, 0, 5, 0, 6, 1, 7, 2, 4);
        x.petition(0, 0, 1, FORBID);
        x.petition(1, 0, 2, FORBID);
        x.petition(2, HIVE, 3, FORBID);
        x.petition(3, 2, 4, FORBID);
        due("6 the season goes on", x.pass(2), 0);
        due("6 petitions stay", x.count(6), 4);
        due("6 what passes", x.pass(1), 3);
        due("6 no petitions", x.count(6), 0);
        due("6 bylaws", x.count(4), 3);
        due("6 strength", x.bylaw(0, 3), 5);
        due("6 this season", x.bylaw(0, 4), 0);
        due("6 passed", x.count(8), 3);
        due("6 refused", x.count(9), 1);
        x.petition(0, 0, 1, ALLOW);
        x.petition(1, 0, 2, ALLOW);
        due("6 over two seasons", x.pass(6), 2);
        due("6 place of the one there", x.count(4), 3);
        due("6 stance of the new one", x.bylaw(0, 2), 1);
        due("6 season of the new one", x.bylaw(0, 4), 1);
        due("6 season now", x.count(1), 3);
        // What passes counts for those behind it: of the same strength nothing is new any more.
        x.petition(0, HIVE, 9, FORBID);
        x.petition(1, HIVE, 9, FORBID);
        due("6 the greater first, the lower brings nothing", x.pass(3), 1);
        due("6 the greater one's strength", x.bylaw(3, 3), 6);
        // A weaker petition that says otherwise takes the place of a stronger bylaw of its own comb.
        x.petition(0, 0, 2, FORBID);
        due("6 a weaker one passes", x.pass(3), 1);
        due("6 and takes the place", x.bylaw(1, 3), 5);
        due("6 with its kind", x.bylaw(1, 2), 0);
        // Three things of one spot in one hearing: made, turned, repealed.
        HiveBylaws y = hive(0, 1, 0, 9, 0, 8, 0, 9, 0, 1);
        y.petition(0, 0, 0, FORBID);
        y.petition(1, 0, 0, ALLOW);
        y.petition(2, 0, 1, ALLOW);
        y.petition(3, 0, 0, REPEAL);
        y.second(0, 3);
        y.second(1, 3);
        due("6 the repeal is heard first", y.heard(0), 3);
        due("6 nothing to repeal yet", y.reason(3), 4);
        due("6 three pass", y.pass(1), 3);
        due("6 the later heard stays", y.rule(0, 0, 2), 8);
        due("6 and says", y.rule(0, 0, 0), 1);
    }

    private static void promise6Refusals() {
        HiveBylaws x = hive(5, 1, 0, 4, 0, 2);
        due("6 below the mood", season(x, 0, 0, 0, FORBID), 0);
        due("6 refused", x.drone(0, 6), 1);
        x.set(0, 4);
        due("6 not greater than it was", season(x, 0, 0, 0, FORBID), 0);
        x.petition(0, 0, 0, FORBID);
        due("6 refused again", x.reason(0), 2);
        x.second(1, 0);
        due("6 greater now", x.reason(0), 0);
        due("6 passes", x.pass(1), 1);
        // A season in which nothing is heard makes her forget.
        x.set(0, 5);
        due("6 below the mood again", season(x, 0, 0, 1, FORBID), 0);
        due("6 an idle season", x.pass(1), 0);
        x.set(0, 4);
        due("6 forgotten", season(x, 0, 0, 1, FORBID), 1);
        // So does a season in which only other things are heard.
        x.set(0, 5);
        season(x, 0, 0, 2, FORBID);
        season(x, 1, 0, 3, FORBID);
        x.set(0, 4);
        due("6 forgotten for others", season(x, 0, 0, 2, FORBID), 1);
    }

    /** The queen keeps in mind all that twelve drones asked for; she forgets it after one season. */
    private static void promise6TwelveRefusals() {
        HiveBylaws x = hive(60, 1);
        for (int i = 0; i < 12; i++) {
            x.come(i % 6, 3);
        }
        for (int i = 0; i < 12; i++) {
            due("6 twelve petitions", x.petition(i, HIVE, i, FORBID), i);
        }
        due("6 none passes", x.pass(1), 0);
        due("6 twelve are refused", x.count(9), 12);
        x.set(0, 0);
        for (int i = 0; i < 12; i++) {
            x.petition(i, HIVE, 11 - i, FORBID);
            due("6 refused ahead", x.reason(i), 2);
        }
        x.second(0, 11);
        due("6 but one with more", x.wouldPass(), 1 << 11);
        due("6 one passes", x.pass(1), 1);
        x.pass(1);
        for (int i = 0; i < 12; i++) {
            x.petition(i, HIVE, i, FORBID);
        }
        due("6 all but the one that is there pass", x.pass(1), 11);
    }

    private static void promise7() {
        HiveBylaws x = new HiveBylaws();
        due("7 which 2", x.set(2, 5), UNKNOWN);
        due("7 which -1", x.set(-1, 5), UNKNOWN);
        due("7 which ahead of value", x.set(2, 61), UNKNOWN);
        due("7 mood 61", x.set(0, 61), BAD_VALUE);
        due("7 mood -1", x.set(0, -1), BAD_VALUE);
        due("7 days 0", x.set(1, 0), BAD_VALUE);
        due("7 days 61", x.set(1, 61), BAD_VALUE);
        due("7 mood as it is", x.set(0, 5), NONE);
        due("7 days as they are", x.set(1, 10), NONE);
        due("7 nothing recorded", x.count(14), 0);
        due("7 previous mood", x.set(0, 0), 5);
        due("7 previous days", x.set(1, 60), 10);
        due("7 most mood", x.set(0, 60), 0);
        due("7 least days", x.set(1, 1), 60);
        due("7 mood", x.count(12), 60);
        due("7 days", x.count(13), 1);
        due("7 an act", x.undo(), 3);
        due("7 undone", x.count(13), 60);
        HiveBylaws y = hive(0, 10, 0, 1);
        y.petition(0, 0, 0, FORBID);
        y.pass(5);
        y.set(1, 3);
        due("7 no hearing yet", y.count(1), 0);
        due("7 days of the season", y.count(2), 5);
        due("7 ends with the next day", y.pass(1), 1);
        due("7 the next season", y.count(1), 1);
        due("7 from 0", y.count(2), 0);
        y.pass(2);
        y.set(1, 20);
        due("7 a longer season", y.pass(17), 0);
        due("7 has not ended", y.count(2), 19);
        due("7 as many", y.pass(1), 0);
        due("7 has ended", y.count(1), 2);
    }

    private static void promise8and9() {
        HiveBylaws x = new HiveBylaws();
        due("9 empty", x.clearText(), 0);
        for (int i = 1; i <= 60; i++) {
            due("8 length", x.type(i == 7 ? (char) 0 : i == 8 ? (char) 65535 : 'a'), i);
        }
        due("8 full", x.type('a'), FULL);
        due("8 still full", x.count(15), 60);
        due("8 no act", x.count(14), 0);
        due("8 no undo of a text", x.undo(), NONE);
        due("9 length that it had", x.clearText(), 60);
        due("9 emptied", x.count(15), 0);
        due("9 again", x.clearText(), 0);
        due("8 from the start", x.type('p'), 1);
        due("9 no act", x.count(14), 0);
        x.come(0, 1);
        x.undo();
        due("8 undo leaves the text", x.count(15), 1);
    }

    private static void fault(String text, int index) {
        HiveBylaws x = hive(0, 10, 0, 1, 0, 1);
        int states = x.count(14);
        due("10 \"" + text + "\"", performed(x, text), -100 - index);
        due("10 no stop by the fault of \"" + text + "\"", x.stopped(0), NONE);
        due("10 nothing recorded by \"" + text + "\"", x.count(14), states);
        due("10 \"" + text + "\" stays", x.count(15), text.length());
        due("10 nothing done by \"" + text + "\"", x.count(7) + x.count(0), 0);
    }

    private static void promise10Faults() {
        fault("", 0);
        String whole = "p0:0.5+";
        for (int i = 0; i < whole.length(); i++) {
            fault(whole.substring(0, i), i);
            fault(whole.substring(0, i) + "?", i);
            fault(whole.substring(0, i) + (char) (256 + whole.charAt(i)), i);
        }
        fault("y", 1);
        fault("y0", 2);
        fault("y0:", 3);
        fault("y0:12", 4);
        fault("y0:00", 4);
        fault("y12:0", 2);
        fault("y11;", 3);
        fault("p12:0.0+", 2);
        fault("p20:0.0+", 2);
        fault("p00:0.0+", 2);
        fault("p01:0.0+", 2);
        fault("p111:0.0+", 3);
        fault("p100", 3);
        fault("p0:7.0+", 3);
        fault("p0:06.0+", 4);
        fault("p0:10.0+", 4);
        fault("p0:60", 4);
        fault("p0:0.20+", 6);
        fault("p0:0.190", 7);
        fault("p0:0.00+", 6);
        fault("p0:0.05+", 6);
        fault("p0:0.5X", 6);
        fault("p0:0.5+.1", 7);
        fault("p0:0.5+;", 8);
        fault(".0", 1);
        fault(".", 1);
        fault(".00", 1);
        fault(".01", 1);
        fault(".100", 3);
        fault(".990", 3);
        fault(".9p", 2);
        fault(".9;;", 3);
        fault(";", 0);
        fault(" .1", 0);
        fault(".1 ", 2);
        fault(".-1", 1);
        fault("P0:0.0+", 0);
        fault("p0:0.5+;y0:0;.100", 16);
        // What was written before the text was emptied is no part of it; nor is there anything behind 60 characters.
        HiveBylaws x = hive(0, 10, 0, 1);
        due("10 a whole text", performed(x, "p0:0.5+"), 1);
        due("10 the beginning of it", performed(x, "p0:0.5"), -106);
        due("10 less of it", performed(x, "p0"), -102);
        fault(".1;.1;.1;.1;.1;.1;.1;.1;.1;.1;.1;.1;.1;.1;.1;.1;.1;.1;p0:0.5", 60);
        fault(".11;.1;.1;.1;.1;.1;.1;.1;.1;.1;.1;.1;.1;.1;.1;.1;.1;.1;.1;y1", 60);
        fault(".1;.1;.1;.1;.1;.1;.1;.1;.1;.1;.1;.1;.1;.1;.1;.1;.1;.1;.1;.1.", 59);
        // Twenty things, each with a ";", fill the text, and one is missing.
        fault(".1;.1;.1;.1;.1;.1;.1;.1;.1;.1;.1;.1;.1;.1;.1;.1;.1;.1;.1;.1;", 60);
    }

    private static void promise10Acts() {
        HiveBylaws x = hive(0, 10, 0, 5, 1, 5);
        due("10 all", performed(x, "p0:0.5+;y1:0;p1:6.5-;.10;p1:1.5x"), 5);
        due("10 the text stays", x.count(15), 32);
        due("10 made", x.count(7), 3);
        due("10 passed", x.count(8), 2);
        due("10 petitions now", x.count(6), 1);
        due("10 the day", x.count(0), 10);
        due("10 allowed", x.bylaw(0, 2), 1);
        due("10 forbidden", x.bylaw(1, 2), 0);
        due("10 strength", x.bylaw(0, 3), 10);
        due("10 repeal", x.petitionOf(0, 3), 2);
        due("10 one act", x.undo(), 3);
        due("10 all undone", x.count(0) + x.count(4) + x.count(6), 0);
        due("10 the text is not undone", x.count(15), 32);
        due("10 from the text again", x.perform(), 5);
        HiveBylaws y = hive(0, 10, 0, 5, 1, 5);
        due("10 NONE does not stop", performed(y, "p0:0.19-;y1:0;y1:0;.99"), 4);
        due("10 largest doing", y.bylaw(0, 1), 19);
        due("10 most days", y.count(0), 99);
        due("10 a petition behind days", performed(y, ".1;.2"), 2);
        due("10 another kind of thing at that place", performed(y, "p0:0.1-;y1:0"), 2);
        due("10 made and seconded", y.petitionOf(0, 4), 10);
        y.undo();
        y.undo();
        y.petition(0, 0, 0, FORBID);
        y.second(1, 0);
        int states = y.count(14);
        due("10 only NONE is an act", performed(y, "y1:0"), 1);
        due("10 history is full", y.count(14), states);
        due("10 undo of nothing", y.undo(), 3);
        due("10 it is still seconded", y.petitionOf(0, 5), 2);
        // All of it, or nothing: what went ahead of the stop is gone too.
        due("10 stopped", performed(y, ".99;y1:5;.1"), NOT_POSSIBLE);
        due("10 no day", y.count(0), 99);
        due("10 nothing recorded", y.count(14), 3);
        due("10 the petition is still there", y.count(6), 1);
        HiveBylaws v = hive(0, 60);
        for (int i = 0; i < 12; i++) {
            v.come(0, 1);
        }
        for (int i = 0; i < 12; i++) {
            v.petition(i, 0, i, FORBID);
        }
        due("10 the last petition", performed(v, "y0:11;y11:10"), 2);
        due("10 is seconded", v.petitionOf(11, 5), 1);
        HiveBylaws z = hive(0, 60);
        for (int i = 0; i < 12; i++) {
            z.come(0, 1);
        }
        due("10 largest drone", performed(z, "p11:0.10x;p10:6.1-;y11:1;y10:0;.10;p9:0.9+"), 6);
        due("10 second of two digits", z.petitionOf(1, 5), 1 << 11);
        due("10 twenty things", performed(z, ".1;.1;.1;.1;.1;.1;.1;.1;.1;.1;.1;.1;.1;.1;.1;.1;.1;.1;.1;.1"), 20);
        due("10 twenty days", z.count(0), 30);
        due("10 one state for them", z.undo(), 3);
        due("10 days undone", z.count(0), 10);
        due("10 a full text", performed(z, ".1;.1;.1;.1;.1;.1;.1;.1;.1;.1;.1;.1;.1;.1;.1;.1;.1;.1;.1;.10"), 20);
        due("10 days of a full text", z.count(0), 39);
    }

    private static void promise11() {
        HiveBylaws x = hive(0, 10, 0, 5, 1, 5);
        due("11 none yet", x.stopped(0), NONE);
        due("11 none yet, error", x.stopped(1), NONE);
        due("11 what ahead of none", x.stopped(2), BAD_VALUE);
        due("11 what -1", x.stopped(-1), BAD_VALUE);
        due("11 a stop", performed(x, "p2:0.0+"), NOT_POSSIBLE);
        due("11 its number", x.stopped(0), 0);
        due("11 its error", x.stopped(1), UNKNOWN);
        due("11 another", performed(x, "p0:0.0+;.1;p0:0.1+"), NOT_POSSIBLE);
        due("11 its number then", x.stopped(0), 2);
        due("11 its error then", x.stopped(1), NOT_POSSIBLE);
        due("11 what 2", x.stopped(2), BAD_VALUE);
        due("11 a good text", performed(x, ".1"), 1);
        due("11 the latest stop stays", x.stopped(0), 2);
        due("11 a fault", performed(x, "."), -101);
        due("11 a fault is no stop", x.stopped(1), NOT_POSSIBLE);
        x.keep();
        due("11 a third", performed(x, "y0:0"), NOT_POSSIBLE);
        due("11 its error at last", x.stopped(1), UNKNOWN);
        x.undo();
        x.restore();
        due("11 undo and restore leave it", x.stopped(0), 0);
        due("11 and its error", x.stopped(1), UNKNOWN);
    }

    private static void promise12() {
        HiveBylaws x = new HiveBylaws();
        due("12 empty", x.undo(), NONE);
        x.come(0, 1);
        x.come(1, 2);
        due("12 left", x.undo(), 1);
        due("12 drones", x.count(3), 1);
        due("12 left none", x.undo(), 0);
        due("12 no drones", x.count(3), 0);
        due("12 empty again", x.undo(), NONE);
        for (int i = 0; i < 7; i++) {
            x.come(i % 6, i + 1);
            due("12 at most four", x.count(14), Math.min(i + 1, 4));
        }
        due("12 3 left", x.undo(), 3);
        due("12 2 left", x.undo(), 2);
        x.come(5, 9);
        due("12 one more recorded", x.count(14), 3);
        due("12 2 left again", x.undo(), 2);
        due("12 1 left", x.undo(), 1);
        due("12 0 left", x.undo(), 0);
        due("12 the oldest ones are dropped", x.count(3), 3);
        due("12 no more", x.undo(), NONE);
        due("12 what stood there", x.drone(2, 1), 3);
        // Everything comes back: bylaws, what was refused, the accounts, the settings.
        HiveBylaws y = hive(0, 1, 0, 5, 0, 4);
        season(y, 0, 0, 0, FORBID);
        y.set(0, 9);
        y.petition(1, 0, 0, ALLOW);
        y.pass(1);
        y.pass(1);
        y.undo();
        y.set(0, 0);
        y.petition(1, 0, 0, ALLOW);
        due("12 she refused it ahead", y.reason(0), 2);
        y.undo();
        y.undo();
        due("12 the mood", y.count(12), 9);
        due("12 refused so far", y.drone(1, 6), 1);
        y.undo();
        due("12 not refused yet", y.drone(1, 6), 0);
        due("12 the petition is back", y.petitionOf(0, 3), ALLOW);
        due("12 the season is back", y.count(1), 1);
    }

    /** A hive with bylaws, refusals and petitions, on the second day of a season. */
    private static HiveBylaws busy() {
        HiveBylaws x = hive(0, 3, 0, 5, 0, 4, 1, 9, 1, 1);
        x.petition(0, 0, 0, FORBID);
        x.petition(3, 1, 0, ALLOW);
        x.pass(3);
        x.petition(0, 0, 0, FORBID);
        x.petition(2, HIVE, 4, FORBID);
        x.pass(3);
        x.petition(3, 1, 7, ALLOW);
        x.petition(1, 0, 8, REPEAL);
        x.second(2, 0);
        x.pass(1);
        return x;
    }

    /**
     * Acts of every kind are undone, and everything that is told of is as it was before them. Each
     * object is looked at once, because it is used for 512 calls at most.
     */
    private static void promise12Whole() {
        long then = fingerprint(busy());
        HiveBylaws x = busy();
        x.pass(2);
        x.come(4, 4);
        x.petition(2, HIVE, 9, ALLOW);
        x.second(0, 0);
        for (int i = 0; i < 4; i++) {
            x.undo();
        }
        due("12 all is as it was", fingerprint(x), then);
        due("14 all is as it was", fingerprint(restored()), then);
        HiveBylaws y = restored();
        y.undo();
        Check.holds("12 the restoring is undone", fingerprint(y) != then);
    }

    /** The busy hive, much changed, and restored. */
    private static HiveBylaws restored() {
        HiveBylaws x = busy();
        x.keep();
        x.undo();
        x.petition(1, HIVE, 4, REPEAL);
        x.petition(2, HIVE, 5, ALLOW);
        x.petition(0, 0, 0, ALLOW);
        x.second(3, 2);
        x.pass(99);
        x.set(0, 9);
        x.set(1, 7);
        x.move(0, 5);
        x.restore();
        return x;
    }

    /** All answers about the state in one number. */
    private static long fingerprint(HiveBylaws x) {
        long sum = 17 * (x.wouldPass() + 1) + x.free();
        for (int i = 0; i <= 13; i++) {
            sum = sum * 31 + x.count(i);
            for (int what = 0; what <= 6; what++) {
                sum = sum * 31 + x.drone(i, what);
                sum = sum * 31 + x.petitionOf(i, what);
                sum = sum * 31 + x.bylaw(i, what);
            }
            sum = sum * 31 + x.heard(i);
            sum = sum * 31 + x.reason(i);
            sum = sum * 31 + x.lacks(i);
            sum = sum * 31 + x.oldest(i, 0);
        }
        return sum;
    }

    private static void promise13and14() {
        HiveBylaws x = hive(0, 1, 0, 5);
        due("14 no snapshot", x.restore(), NONE);
        due("14 none is no act", x.count(14), 3);
        due("13 no bylaws", x.keep(), 0);
        due("13 no act", x.count(14), 3);
        season(x, 0, 0, 0, FORBID);
        season(x, 0, HIVE, 0, FORBID);
        due("14 bylaws then", x.restore(), 0);
        due("14 day", x.count(0), 0);
        due("14 an act", x.undo(), 3);
        due("14 undone", x.count(4), 2);
        due("13 in place of the one that was", x.keep(), 2);
        season(x, 0, 0, 0, REPEAL);
        due("14 one repealed", x.count(10), 1);
        due("14 two again", x.restore(), 2);
        due("14 no repeal", x.count(10), 0);
        x.come(1, 1);
        due("14 stays", x.restore(), 2);
        due("14 drones then", x.count(3), 1);
        due("14 restoring what is so already is an act", x.restore(), 2);
        x.undo();
        x.undo();
        due("14 the drone that came", x.count(3), 2);
        x.type('p');
        x.undo();
        x.restore();
        due("14 the text is no part of it", x.count(15), 1);
        HiveBylaws y = new HiveBylaws();
        due("13 of an empty hive", y.keep(), 0);
        y.come(0, 1);
        due("14 of an empty hive", y.restore(), 0);
        due("14 no drone", y.count(3), 0);
    }

    private static void promise15() {
        HiveBylaws x = hive(5, 1, 3, 5, 4, 2);
        due("15 unknown", x.drone(2, 0), UNKNOWN);
        due("15 negative", x.drone(-1, 0), UNKNOWN);
        due("15 unknown ahead of what", x.drone(2, 7), UNKNOWN);
        due("15 what 7", x.drone(0, 7), BAD_VALUE);
        due("15 what -1", x.drone(0, -1), BAD_VALUE);
        due("15 comb", x.drone(0, 0), 3);
        due("15 weight", x.drone(1, 1), 2);
        due("15 no petition", x.drone(0, 2), NONE);
        due("15 seconds none", x.drone(0, 3), 0);
        x.petition(1, 4, 0, FORBID);
        x.petition(0, 3, 0, FORBID);
        due("15 petition", x.drone(0, 2), 1);
        due("15 another's petition", x.drone(1, 2), 0);
        due("15 made counts this season", x.drone(0, 4), 1);
        due("15 none passed yet", x.drone(0, 5), 0);
        x.second(1, 1);
        x.come(5, 1);
        x.second(2, 0);
        x.second(2, 1);
        due("15 seconds its other", x.drone(1, 3), 2);
        due("15 seconds both", x.drone(2, 3), 3);
        due("15 its own is not seconded", x.drone(0, 3), 0);
        x.pass(1);
        due("15 made", x.drone(1, 4), 1);
        due("15 passed", x.drone(0, 5), 1);
        due("15 not refused", x.drone(0, 6), 0);
        due("15 refused", x.drone(1, 6), 1);
        due("15 refused did not pass", x.drone(1, 5), 0);
        due("15 no petition in the new season", x.drone(1, 2), NONE);
        due("15 seconds none in the new season", x.drone(2, 3), 0);
        due("15 seconding is not making", x.drone(2, 4), 0);
    }

    private static void promise16() {
        HiveBylaws x = hive(0, 1, 5, 3, 2, 4, 2, 1, 0, 9);
        due("16 rank -1", x.bylaw(-1, 0), BAD_VALUE);
        due("16 rank least", x.bylaw(MIN, 0), BAD_VALUE);
        due("16 what -1", x.bylaw(0, -1), BAD_VALUE);
        due("16 what 6 ahead of none", x.bylaw(0, 6), BAD_VALUE);
        due("16 none", x.bylaw(0, 5), NONE);
        x.petition(3, HIVE, 0, ALLOW);
        x.petition(0, 5, 1, FORBID);
        x.petition(1, 2, 19, FORBID);
        x.pass(1);
        x.petition(1, 2, 3, ALLOW);
        x.pass(1);
        int[][] rows = {{2, 3, 1, 4, 1, 5}, {2, 19, 0, 4, 0, 5}, {5, 1, 0, 3, 0, 3}, {6, 0, 1, 9, 0, 17}};
        for (int rank = 0; rank < rows.length; rank++) {
            for (int what = 0; what <= 5; what++) {
                due("16 bylaw(" + rank + ", " + what + ")", x.bylaw(rank, what), rows[rank][what]);
            }
        }
        due("16 not so many", x.bylaw(4, 0), NONE);
        due("16 rank most", x.bylaw(MAX, 0), NONE);
        x.move(3, 2);
        due("16 whom it concerns now", x.bylaw(0, 5), 14);
        x.move(0, 0);
        due("16 nobody", x.bylaw(2, 5), 0);
        due("16 all", x.bylaw(3, 5), 17);
    }

    /** All twelve drones are weighed. */
    private static void promise16Twelve() {
        HiveBylaws x = hive(0, 1);
        for (int i = 0; i < 12; i++) {
            x.come(i < 9 ? 5 : 4, i == 11 ? 2 : 9);
        }
        x.petition(0, 5, 0, FORBID);
        x.petition(11, HIVE, 0, FORBID);
        x.pass(1);
        due("16 the weight of nine", x.bylaw(0, 5), 81);
        due("16 the weight of twelve", x.bylaw(1, 5), 101);
        x.petition(11, HIVE, 0, REPEAL);
        for (int i = 0; i < 5; i++) {
            x.second(i, 0);
        }
        due("16 47 of 101", x.reason(0), 5);
        due("16 lacks 4", x.lacks(0), 4);
        x.second(10, 0);
        due("16 56 of 101", x.reason(0), 0);
    }

    /** The weakest bylaw is one, and so is the one on the first spot. */
    private static void promise16Least() {
        HiveBylaws x = hive(0, 1, 0, 1);
        season(x, 0, 0, 0, FORBID);
        due("16 one bylaw", x.count(4), 1);
        due("16 of the first comb", x.bylaw(0, 0), 0);
        due("16 of strength 1", x.bylaw(0, 3), 1);
        due("16 it forbids", x.count(5), 1);
        due("16 at one comb", x.count(11), 1);
        due("16 it rules", x.rule(0, 0, 0), 0);
        due("16 its comb rules", x.rule(0, 0, 1), 0);
        due("16 its strength rules", x.rule(0, 0, 2), 1);
        due("16 it binds", x.oldest(0, 0), 0);
        due("16 from the first season", x.oldest(0, 1), 0);
        season(x, 0, HIVE, 19, FORBID);
        due("16 the last spot", x.bylaw(1, 0), 6);
        due("16 the last doing", x.bylaw(1, 1), 19);
        due("16 at all combs", x.count(11), 7);
        due("16 repealed", season(x, 0, 0, 0, REPEAL), 1);
        due("16 the last spot is the first", x.bylaw(0, 1), 19);
        due("16 the last spot binds", x.oldest(0, 0), 0);
    }

    private static void promise17() {
        HiveBylaws x = hive(5, 10, 1, 5, 4, 2, 4, 3);
        due("17 none", x.petitionOf(0, 0), UNKNOWN);
        x.petition(1, 4, 13, REPEAL);
        x.petition(2, HIVE, 0, ALLOW);
        x.second(0, 0);
        x.second(2, 0);
        int[][] rows = {{1, 4, 13, 2, 10, 5}, {2, 6, 0, 1, 3, 0}};
        for (int petition = 0; petition < rows.length; petition++) {
            for (int what = 0; what <= 5; what++) {
                due("17 petitionOf(" + petition + ", " + what + ")", x.petitionOf(petition, what), rows[petition][what]);
            }
        }
        due("17 unknown", x.petitionOf(2, 0), UNKNOWN);
        due("17 negative", x.petitionOf(-1, 0), UNKNOWN);
        due("17 unknown ahead of what", x.petitionOf(2, 6), UNKNOWN);
        due("17 what 6", x.petitionOf(0, 6), BAD_VALUE);
        due("17 what -1", x.petitionOf(0, -1), BAD_VALUE);
        x.pass(10);
        due("17 the season is over", x.petitionOf(0, 0), UNKNOWN);
    }

    private static void promise18() {
        HiveBylaws x = hive(5, 10, 0, 3, 0, 5, 0, 3, 0, 9);
        due("18 none", x.heard(0), NONE);
        due("18 negative", x.heard(-1), BAD_VALUE);
        due("18 least", x.heard(MIN), BAD_VALUE);
        x.petition(2, 0, 0, FORBID);
        x.petition(0, 0, 0, ALLOW);
        x.petition(1, 0, 0, REPEAL);
        due("18 more support", x.heard(0), 2);
        due("18 of like support the lower", x.heard(1), 0);
        due("18 then the higher", x.heard(2), 1);
        due("18 not so many", x.heard(3), NONE);
        due("18 most", x.heard(MAX), NONE);
        x.second(3, 1);
        due("18 as it would be now", x.heard(0), 1);
        x.second(2, 2);
        due("18 then", x.heard(1), 2);
        due("18 last", x.heard(2), 0);
        x.pass(10);
        due("18 none in a new season", x.heard(0), NONE);
    }

    private static void promise19() {
        HiveBylaws x = hive(0, 1, 0, 4, 1, 4, 1, 5);
        due("19 comb 6", x.rule(6, 0, 0), UNKNOWN);
        due("19 comb -1", x.rule(-1, 0, 0), UNKNOWN);
        due("19 doing 20", x.rule(0, 20, 0), UNKNOWN);
        due("19 doing -1", x.rule(0, -1, 0), UNKNOWN);
        due("19 unknown ahead of what", x.rule(0, 20, 3), UNKNOWN);
        due("19 what 3", x.rule(0, 0, 3), BAD_VALUE);
        due("19 what -1", x.rule(5, 19, -1), BAD_VALUE);
        due("19 without any allowed", x.rule(5, 19, 0), 1);
        due("19 without any no comb", x.rule(5, 19, 1), NONE);
        due("19 without any no strength", x.rule(5, 19, 2), NONE);
        season(x, 0, HIVE, 8, FORBID);
        due("19 the hive's", x.rule(3, 8, 1), 6);
        due("19 forbidden", x.rule(3, 8, 0), 0);
        due("19 strength", x.rule(3, 8, 2), 4);
        due("19 another doing", x.rule(3, 7, 1), NONE);
        season(x, 1, 1, 8, ALLOW);
        due("19 of like ones the comb's", x.rule(1, 8, 1), 1);
        due("19 allowed", x.rule(1, 8, 0), 1);
        due("19 still the hive's elsewhere", x.rule(0, 8, 0), 0);
        season(x, 2, HIVE, 8, FORBID);
        due("19 the stronger of the hive", x.rule(1, 8, 1), 6);
        due("19 its strength", x.rule(1, 8, 2), 5);
        due("19 forbidden by it", x.rule(1, 8, 0), 0);
        x.petition(1, 1, 8, ALLOW);
        x.second(2, 0);
        x.pass(1);
        due("19 the stronger of the comb", x.rule(1, 8, 1), 1);
        due("19 its strength then", x.rule(1, 8, 2), 9);
        due("19 only the comb's", season(x, 0, 0, 2, FORBID), 1);
        due("19 at its comb", x.rule(0, 2, 1), 0);
        due("19 not at another", x.rule(1, 2, 1), NONE);
    }

    private static void promise20() {
        HiveBylaws x = hive(5, 10, 0, 5, 0, 4, 1, 9, 2, 6);
        due("20 none", x.reason(0), UNKNOWN);
        x.petition(0, 0, 0, FORBID);
        x.petition(1, 0, 0, FORBID);
        due("20 negative", x.reason(-1), UNKNOWN);
        due("20 unknown", x.reason(2), UNKNOWN);
        due("20 as much as her mood", x.reason(0), 0);
        due("20 below her mood", x.reason(1), 1);
        x.set(0, 6);
        due("20 of another mood", x.reason(0), 1);
        x.set(0, 4);
        due("20 what passes ahead counts", x.reason(1), 4);
        due("20 nothing changes", x.count(4) + x.count(8) + x.count(1), 0);
        due("20 the petitions stay", x.count(6), 2);
        // 3: bylaws of the hive
        HiveBylaws y = hive(0, 1, 0, 5, 0, 1, 1, 4, 1, 5);
        season(y, 0, HIVE, 0, ALLOW);
        y.petition(2, 1, 0, FORBID);
        due("20 a stronger one says otherwise", y.reason(0), 3);
        y.petition(3, 1, 0, FORBID);
        due("20 of like strength it is not above", y.reason(1), 0);
        y.undo();
        y.petition(1, HIVE, 0, FORBID);
        due("20 for the hive itself it passes", y.reason(1), 0);
        y.petition(0, 0, 0, ALLOW);
        due("20 the hive's says so too, the comb has none", y.reason(2), 0);
        y.undo();
        y.undo();
        y.undo();
        y.petition(2, 1, 0, REPEAL);
        due("20 nothing to repeal at the comb", y.reason(0), 4);
        // 4: brings nothing
        HiveBylaws z = hive(0, 1, 0, 5, 0, 4, 0, 6);
        season(z, 0, 0, 0, FORBID);
        z.petition(0, 0, 0, FORBID);
        due("20 at least its support", z.reason(0), 4);
        z.petition(2, 0, 0, FORBID);
        due("20 more support is new", z.reason(1), 0);
        z.petition(1, 0, 0, ALLOW);
        due("20 otherwise is new", z.reason(2), 0);
        z.undo();
        z.undo();
        z.undo();
        z.petition(1, 0, 1, REPEAL);
        due("20 no bylaw about that", z.reason(0), 4);
        // 5: the swarm
        z.undo();
        z.petition(0, 0, 0, REPEAL);
        due("20 5 of 15 is not the swarm", z.reason(0), 5);
        z.move(2, 1);
        due("20 5 of 9 is", z.reason(0), 0);
        z.come(0, 1);
        due("20 5 of 10 is not", z.reason(0), 5);
        z.second(3, 0);
        due("20 6 of 10 is", z.reason(0), 0);
        due("20 repealed", z.pass(1), 1);
        due("20 gone", z.rule(0, 0, 1), NONE);
        season(z, 2, HIVE, 0, ALLOW);
        z.petition(0, HIVE, 0, REPEAL);
        z.second(2, 0);
        due("20 all are concerned by the hive's: 11 of 16", z.reason(0), 0);
        z.come(5, 6);
        due("20 11 of 22", z.reason(0), 5);
        // Nobody lives there any more: any support is above nothing.
        HiveBylaws v = hive(0, 1, 0, 5);
        season(v, 0, 0, 0, FORBID);
        v.petition(0, 0, 0, REPEAL);
        v.move(0, 1);
        due("20 nobody is concerned", v.reason(0), 0);
        // A repeal heard ahead frees those behind it of the hive's bylaw; two repeals: the second has nothing.
        HiveBylaws w = hive(0, 1, 0, 9, 1, 2, 0, 1);
        season(w, 0, HIVE, 0, ALLOW);
        w.petition(1, 1, 0, FORBID);
        due("20 against the hive", w.reason(0), 3);
        w.petition(0, HIVE, 0, REPEAL);
        due("20 behind the repeal", w.reason(0), 0);
        w.petition(2, HIVE, 0, REPEAL);
        due("20 behind the other repeal", w.reason(2), 4);
    }

    private static void promise20RefusedAhead() {
        HiveBylaws x = hive(60, 1, 0, 5, 0, 7, 1, 9, 1, 6);
        x.petition(0, 0, 0, FORBID);
        x.petition(1, 0, 0, FORBID);
        x.petition(2, HIVE, 1, ALLOW);
        x.pass(1);
        x.set(0, 0);
        x.petition(1, 0, 0, FORBID);
        due("20 of several the greatest: 7", x.reason(0), 2);
        x.second(0, 0);
        due("20 12 is greater", x.reason(0), 0);
        x.petition(2, HIVE, 1, ALLOW);
        due("20 9 was refused", x.reason(1), 2);
        x.petition(3, 1, 1, ALLOW);
        due("20 of another comb she refused none", x.reason(2), 0);
        x.undo();
        x.petition(3, HIVE, 0, ALLOW);
        due("20 about another doing she refused none", x.reason(2), 0);
        x.undo();
        x.petition(3, HIVE, 1, FORBID);
        due("20 of another kind she refused none", x.reason(2), 0);
        x.undo();
        x.petition(0, 0, 0, FORBID);
        due("20 5 is not greater than 7", x.reason(2), 2);
        x.set(0, 6);
        due("20 her mood comes first", x.reason(2), 1);
        x.pass(1);
        x.set(0, 0);
        x.petition(0, 0, 0, FORBID);
        due("20 refused with 5 in the season ahead", x.reason(0), 2);
        x.second(3, 0);
        due("20 11 is greater; a bylaw of 12 is there", x.reason(0), 4);
        // Her refusal comes ahead of the others.
        HiveBylaws y = hive(60, 1, 0, 5);
        season(y, 0, 0, 0, REPEAL);
        y.set(0, 0);
        y.petition(0, 0, 0, REPEAL);
        due("20 refused ahead of nothing to repeal", y.reason(0), 2);
    }

    private static void promise21() {
        HiveBylaws x = hive(5, 10, 0, 5, 0, 4, 1, 9, 2, 6);
        due("21 none", x.wouldPass(), 0);
        x.petition(0, 0, 0, FORBID);
        x.petition(1, 0, 1, FORBID);
        x.petition(2, HIVE, 2, FORBID);
        x.petition(3, HIVE, 2, FORBID);
        due("21 0 and 2", x.wouldPass(), 5);
        x.second(1, 3);
        due("21 0 and 3", x.wouldPass(), 9);
        x.second(0, 1);
        due("21 0, 1 and 3", x.wouldPass(), 11);
        due("21 nothing is heard by it", x.count(4) + x.count(8), 0);
        due("21 as many pass", x.pass(10), 3);
        due("21 none now", x.wouldPass(), 0);
    }

    private static void promise22() {
        HiveBylaws x = hive(5, 1, 0, 5, 0, 2, 1, 9, 2, 6);
        due("22 none", x.lacks(0), UNKNOWN);
        due("22 negative", x.lacks(-1), UNKNOWN);
        x.petition(0, 0, 0, FORBID);
        x.petition(1, 0, 0, FORBID);
        due("22 it would pass", x.lacks(0), 0);
        due("22 below her mood", x.lacks(1), 3);
        due("22 not the others", x.reason(1), 1);
        x.set(0, 60);
        due("22 far below her mood", x.lacks(1), 58);
        x.set(0, 2);
        due("22 if it was the only one", x.lacks(1), 0);
        due("22 though it is not", x.reason(1), 4);
        x.undo();
        due("22 unknown", x.lacks(2), UNKNOWN);
        x.pass(1);
        due("22 refused ahead", x.count(9), 2);
        x.set(0, 0);
        x.petition(1, 0, 0, FORBID);
        due("22 more than was refused: 6", x.lacks(0), 4);
        x.pass(1);
        season(x, 2, HIVE, 0, ALLOW);
        x.petition(1, 0, 0, FORBID);
        due("22 as strong as the hive's", x.lacks(0), 7);
        x.petition(0, HIVE, 0, ALLOW);
        due("22 stronger than the one there", x.lacks(1), 5);
        x.petition(3, 2, 0, REPEAL);
        due("22 no support serves", x.lacks(2), NONE);
        x.petition(2, HIVE, 0, REPEAL);
        due("22 above half of 22", x.lacks(3), 3);
        x.come(5, 1);
        due("22 above half of 23", x.lacks(3), 3);
        x.come(5, 1);
        due("22 above half of 24", x.lacks(3), 4);
        // The greatest that can be lacked: a bylaw of 108 of the whole swarm.
        HiveBylaws y = hive(0, 1);
        for (int i = 0; i < 12; i++) {
            y.come(0, i == 0 ? 1 : 9);
        }
        y.petition(1, HIVE, 0, ALLOW);
        for (int i = 0; i < 12; i++) {
            y.second(i, 0);
        }
        due("22 the whole swarm", y.pass(1), 1);
        y.petition(0, HIVE, 0, ALLOW);
        due("22 above 100", y.lacks(0), 100);
        // Nothing but no bylaw to repeal makes all support useless, and that comes whatever is before it.
        HiveBylaws z = hive(60, 10, 0, 1);
        z.petition(0, 0, 0, REPEAL);
        due("22 none for a repeal of nothing", z.lacks(0), NONE);
        due("22 though her mood comes first", z.reason(0), 1);
    }

    private static void promise23() {
        HiveBylaws x = hive(5, 2, 0, 5, 0, 2, 1, 9);
        due("23 all", x.free(), 7);
        x.petition(1, 0, 0, FORBID);
        due("23 but one", x.free(), 5);
        x.second(0, 0);
        due("23 seconding is free", x.free(), 5);
        x.come(3, 3);
        due("23 one more came", x.free(), 13);
        x.petition(3, HIVE, 0, FORBID);
        x.petition(0, HIVE, 0, FORBID);
        x.petition(2, HIVE, 0, FORBID);
        due("23 none", x.free(), 0);
        x.pass(1);
        due("23 in this season", x.free(), 0);
        x.pass(1);
        due("23 all in the next one", x.free(), 15);
        HiveBylaws y = new HiveBylaws();
        for (int i = 0; i < 12; i++) {
            y.come(0, 1);
        }
        due("23 twelve", y.free(), 4095);
    }

    private static void promise24() {
        HiveBylaws x = hive(0, 1, 0, 4, 1, 4, 1, 5);
        due("24 unknown", x.oldest(3, 0), UNKNOWN);
        due("24 negative", x.oldest(-1, 0), UNKNOWN);
        due("24 unknown ahead of what", x.oldest(3, 2), UNKNOWN);
        due("24 what 2", x.oldest(0, 2), BAD_VALUE);
        due("24 what -1", x.oldest(0, -1), BAD_VALUE);
        due("24 none", x.oldest(0, 0), NONE);
        due("24 no season", x.oldest(0, 1), NONE);
        season(x, 1, 1, 9, FORBID);
        due("24 not at another comb", x.oldest(0, 0), NONE);
        due("24 at its comb", x.oldest(1, 0), 0);
        x.petition(0, HIVE, 5, FORBID);
        x.petition(2, 1, 3, FORBID);
        x.pass(1);
        due("24 the hive's is the third", x.oldest(0, 0), 2);
        due("24 its season", x.oldest(0, 1), 1);
        due("24 the least season", x.oldest(1, 0), 1);
        due("24 is the first", x.oldest(1, 1), 0);
        // The hive overrules the oldest one: it binds no more.
        season(x, 2, HIVE, 9, FORBID);
        due("24 of one season the first as sorted", x.oldest(1, 0), 0);
        due("24 of the second season", x.oldest(1, 1), 1);
        due("24 for the other comb the hive's of doing 5", x.oldest(0, 0), 2);
        // Of one season the comb's stands ahead of the hive's, though its doing is higher.
        HiveBylaws y = hive(0, 1, 0, 4, 0, 5);
        y.petition(0, HIVE, 1, FORBID);
        y.petition(1, 0, 8, FORBID);
        y.pass(1);
        due("24 the comb's is first", y.oldest(0, 0), 0);
        y.move(0, 3);
        due("24 where it lives now", y.oldest(0, 0), 1);
        season(y, 1, 0, 8, ALLOW);
        due("24 a newer one in its place", y.oldest(1, 0), 1);
    }

    private static void promise25() {
        HiveBylaws x = hive(5, 4, 0, 5, 0, 2, 1, 9, 2, 6);
        due("25 what -1", x.count(-1), BAD_VALUE);
        due("25 what 16", x.count(16), BAD_VALUE);
        due("25 what least", x.count(MIN), BAD_VALUE);
        due("25 what most", x.count(MAX), BAD_VALUE);
        x.petition(0, 0, 0, FORBID);
        x.petition(1, 0, 0, FORBID);
        x.petition(2, HIVE, 1, FORBID);
        x.petition(3, HIVE, 2, ALLOW);
        x.pass(6);
        x.petition(2, 1, 1, ALLOW);
        x.type('.');
        x.type('1');
        int[] then = {6, 1, 2, 4, 3, 2, 1, 5, 3, 1, 0, 7, 5, 4, 4, 2};
        for (int what = 0; what <= 15; what++) {
            due("25 count(" + what + ")", x.count(what), then[what]);
        }
        x.pass(2);
        due("25 the comb's is as strong: one fewer forbidden", x.count(11), 6);
        due("25 forbidding bylaws", x.count(5), 2);
        x.petition(2, HIVE, 1, REPEAL);
        x.second(3, 0);
        due("25 not yet passed", x.count(8), 4);
        x.pass(4);
        due("25 repeals", x.count(10), 1);
        due("25 forbidden", x.count(11), 1);
        due("25 forbidding", x.count(5), 1);
        due("25 bylaws", x.count(4), 3);
        x.petition(2, HIVE, 1, REPEAL);
        x.pass(4);
        due("25 a refused repeal is none", x.count(10), 1);
        due("25 accounts add up", x.count(8) + x.count(9) + x.count(6), x.count(7));
        due("25 petitions so far", x.count(7), 7);
        due("25 refused so far", x.count(9), 2);
        // Made bylaws are those that stand, those that were replaced and those that were repealed.
        due("25 passed so far", x.count(8), 5);
        x.set(1, 60);
        due("25 setting 1", x.count(13), 60);
        due("25 setting 0", x.count(12), 5);
        due("25 the history", x.count(14), 4);
        x.undo();
        due("25 the history then", x.count(14), 3);
    }
}
