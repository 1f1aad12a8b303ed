import java.util.TreeSet;

/** The boundaries in the document's 'Terms': TEXTS. */
public final class BoundaryTextsTest extends Boundary {
    /** Twelve drones of weight 1, two at each comb, and twelve petitions for the hive by them. */
    private static final Run SWARM = x -> {
        x.set(1, 60);
        for (int i = 0; i < 12; i++) {
            x.come(i % 6, 1);
        }
    };

    private static final Run ALL_MADE = then(SWARM, x -> {
        for (int i = 0; i < 12; i++) {
            x.petition(i, HIVE, i, FORBID);
        }
    });

    public static void main(String[] args) {
        thereIsATextOfAtMost60CharactersEmptyAtFirst();
        petitionsAreATextOneOrMoreWithSemicolonsBetweenTwo();
        pADrone0To11();
        aComb0To6();
        aDoing0To19();
        plusAllowedMinusForbiddenOrXRepealed();
        yADroneAndAPetition0To11();
        pointAndDays1To99();
        numbersHaveNoZeroInFront();
        aDigitByWhichANumberWouldBeGreaterThanToldIsNotAllowed();
        theFaultIsTheIndexOfTheFirstCharacterThatIsNotAllowed();
        orTheLengthOfTheTextIfItEndsTooEarly();
        theFaultOfEveryBeginningAndEverySignBehindIt();
        Check.end();
    }

    /** The text is whole: as many things are done. */
    private static void goes(Run run, String text, int things) {
        inside("\"" + text + "\"", then(run, text(text)), HiveBylaws::perform, things);
    }

    /** The text has a fault at this index, and nothing is done. */
    private static void fault(Run run, String text, int index) {
        outside("\"" + text + "\"", then(run, text(text)), HiveBylaws::perform, -100 - index);
    }

    /** The text is whole, but what it tells is not possible. */
    private static void stops(Run run, String text, int number, int error) {
        stopping("\"" + text + "\"", then(run, text(text)), number, error);
    }

    private static String repeated(String piece, int times) {
        StringBuilder all = new StringBuilder();
        for (int i = 0; i < times; i++) {
            all.append(piece);
        }
        return all.toString();
    }

    private static void thereIsATextOfAtMost60CharactersEmptyAtFirst() {
        sentence("There is a text of at most 60 characters, empty at first.");
        inside("empty at first", x -> {}, x -> x.count(15), 0);
        inside("cleared when empty", x -> {}, HiveBylaws::clearText, 0);
        inside("the first character", x -> {}, x -> x.type('p'), 1);
        Run fiftyNine = text(repeated(".", 59));
        inside("the 60th character", fiftyNine, x -> x.type('p'), 60);
        Run sixty = text(repeated(".1;", 19) + ".10");
        for (char sign : new char[] {'p', '0', (char) 0, (char) 255, (char) 65535}) {
            outside("the 61st character", sixty, x -> x.type(sign), FULL);
        }
        inside("60 characters are read", sixty, HiveBylaws::perform, 20);
        inside("cleared when full", sixty, HiveBylaws::clearText, 60);
        Run cleared = then(sixty, HiveBylaws::clearText);
        inside("empty then", cleared, x -> x.count(15), 0);
        inside("typed from the start then", cleared, x -> x.type('p'), 1);
        inside("nothing of the old text is read", then(cleared, x -> x.type('.')), HiveBylaws::perform, -101);
    }

    private static void petitionsAreATextOneOrMoreWithSemicolonsBetweenTwo() {
        sentence("Petitions are a text: one or more of these with \";\" between two:");
        fault(SWARM, "", 0);
        goes(SWARM, ".1", 1);
        goes(SWARM, "p0:0.0+", 1);
        goes(ALL_MADE, "y0:1", 1);
        goes(SWARM, "p0:0.0+;y1:0", 2);
        goes(SWARM, ".1;.1", 2);
        goes(SWARM, "p0:0.0+;y1:0;.1", 3);
        goes(SWARM, repeated(".1;", 19) + ".1", 20);
        fault(SWARM, repeated(".1;", 20), 60);
        fault(SWARM, ";", 0);
        fault(SWARM, ";.1", 0);
        fault(SWARM, ".1;", 3);
        fault(SWARM, ".1;;.1", 3);
        fault(SWARM, ".1 ;.1", 2);
        fault(SWARM, ".1; .1", 3);
        fault(SWARM, ".1.1", 2);
        fault(SWARM, ".1,.1", 2);
        fault(SWARM, "p0:0.0+p1:1.0+", 7);
        fault(SWARM, "p0:0.0+;;", 8);
        fault(ALL_MADE, "y0:1y1:2", 4);
        fault(ALL_MADE, "y0:1;", 5);
    }

    private static void pADrone0To11() {
        sentence("\"p\", a drone (0 to 11), \":\"");
        goes(SWARM, "p0:6.0+", 1);
        goes(SWARM, "p9:6.0+", 1);
        goes(SWARM, "p10:6.0+", 1);
        goes(SWARM, "p11:6.0+", 1);
        inside("drone 11 petitions", then(SWARM, text("p11:6.0+"), HiveBylaws::perform), x -> x.drone(11, 2), 0);
        inside("drone 1 petitions", then(SWARM, text("p1:6.0+"), HiveBylaws::perform), x -> x.drone(1, 2), 0);
        fault(SWARM, "p12:6.0+", 2);
        fault(SWARM, "p19:6.0+", 2);
        fault(SWARM, "p20:6.0+", 2);
        fault(SWARM, "p99:6.0+", 2);
        fault(SWARM, "p110:6.0+", 3);
        fault(SWARM, "p100:6.0+", 3);
        fault(SWARM, "p-1:6.0+", 1);
        fault(SWARM, "p:6.0+", 1);
        fault(SWARM, "P0:6.0+", 0);
        fault(SWARM, "p0.6.0+", 2);
        fault(SWARM, "p0;6.0+", 2);
        stops(hive(0, 10, 0, 1), "p1:6.0+", 0, UNKNOWN);
        stops(hive(0, 10, 0, 1), "p11:6.0+", 0, UNKNOWN);
    }

    private static void aComb0To6() {
        sentence("a comb (0 to 6)");
        goes(SWARM, "p0:0.0+", 1);
        goes(SWARM, "p5:5.0+", 1);
        goes(SWARM, "p5:6.0+", 1);
        inside("comb 5", then(SWARM, text("p5:5.0+"), HiveBylaws::perform), x -> x.petitionOf(0, 1), 5);
        inside("comb 6", then(SWARM, text("p5:6.0+"), HiveBylaws::perform), x -> x.petitionOf(0, 1), 6);
        fault(SWARM, "p0:7.0+", 3);
        fault(SWARM, "p0:9.0+", 3);
        fault(SWARM, "p0:-1.0+", 3);
        fault(SWARM, "p1:10.0+", 4);
        fault(SWARM, "p0:00.0+", 4);
        fault(SWARM, "p0:66.0+", 4);
        fault(SWARM, "p0:.0+", 3);
        fault(SWARM, "p0:0:0+", 4);
        stops(SWARM, "p0:1.0+", 0, NOT_POSSIBLE);
    }

    private static void aDoing0To19() {
        sentence("a doing (0 to 19)");
        goes(SWARM, "p0:0.0+", 1);
        goes(SWARM, "p0:0.1+", 1);
        goes(SWARM, "p0:0.9+", 1);
        goes(SWARM, "p0:0.10+", 1);
        goes(SWARM, "p0:0.19+", 1);
        inside("doing 19", then(SWARM, text("p0:0.19+"), HiveBylaws::perform), x -> x.petitionOf(0, 2), 19);
        inside("doing 2", then(SWARM, text("p0:0.2+"), HiveBylaws::perform), x -> x.petitionOf(0, 2), 2);
        fault(SWARM, "p0:0.20+", 6);
        fault(SWARM, "p0:0.29+", 6);
        fault(SWARM, "p0:0.99+", 6);
        fault(SWARM, "p0:0.190+", 7);
        fault(SWARM, "p0:0.100+", 7);
        fault(SWARM, "p0:0.-1+", 5);
        fault(SWARM, "p0:0.+", 5);
    }

    private static void plusAllowedMinusForbiddenOrXRepealed() {
        sentence("and \"+\" (allowed), \"-\" (forbidden) or \"x\" (repealed)");
        inside("+", then(SWARM, text("p0:0.0+"), HiveBylaws::perform), x -> x.petitionOf(0, 3), ALLOW);
        inside("-", then(SWARM, text("p0:0.0-"), HiveBylaws::perform), x -> x.petitionOf(0, 3), FORBID);
        inside("x", then(SWARM, text("p0:0.0x"), HiveBylaws::perform), x -> x.petitionOf(0, 3), REPEAL);
        // The signs beside them, the great letter, and a sign that would be "+" if it was cut to eight bits.
        for (char sign : new char[] {'*', ',', '.', 'w', 'y', 'X', ';', ':', ' ', (char) 0, (char) 299, (char) 301, (char) 376}) {
            fault(SWARM, "p0:0.0" + sign, 6);
        }
        fault(SWARM, "p0:0.0", 6);
        fault(SWARM, "p0:0.0++", 7);
    }

    private static void yADroneAndAPetition0To11() {
        sentence("\"y\", a drone, \":\" and a petition (0 to 11: it is seconded)");
        goes(ALL_MADE, "y0:11", 1);
        goes(ALL_MADE, "y11:0", 1);
        goes(ALL_MADE, "y11:10", 1);
        goes(ALL_MADE, "y10:9", 1);
        inside("drone 11, petition 0", then(ALL_MADE, text("y11:0"), HiveBylaws::perform), x -> x.petitionOf(0, 5), 2048);
        inside("drone 0, petition 11", then(ALL_MADE, text("y0:11"), HiveBylaws::perform), x -> x.petitionOf(11, 5), 1);
        fault(ALL_MADE, "y12:0", 2);
        fault(ALL_MADE, "y0:12", 4);
        fault(ALL_MADE, "y0:20", 4);
        fault(ALL_MADE, "y0:110", 5);
        fault(ALL_MADE, "y0:100", 5);
        fault(ALL_MADE, "y0:-1", 3);
        fault(ALL_MADE, "y0:", 3);
        fault(ALL_MADE, "y:0", 1);
        fault(ALL_MADE, "y0.0", 2);
        fault(ALL_MADE, "Y0:0", 0);
        fault(ALL_MADE, "y0:1+", 4);
        goes(ALL_MADE, "y0:1;y0:1", 2);
        stops(ALL_MADE, "y0:0", 0, NOT_POSSIBLE);
        stops(SWARM, "y0:11", 0, UNKNOWN);
        stops(SWARM, "y0:0", 0, UNKNOWN);
    }

    private static void pointAndDays1To99() {
        sentence("\".\" and days (1 to 99: they end)");
        inside("1", then(SWARM, text(".1"), HiveBylaws::perform), x -> x.count(0), 1);
        inside("9", then(SWARM, text(".9"), HiveBylaws::perform), x -> x.count(0), 9);
        inside("10", then(SWARM, text(".10"), HiveBylaws::perform), x -> x.count(0), 10);
        inside("99", then(SWARM, text(".99"), HiveBylaws::perform), x -> x.count(0), 99);
        fault(SWARM, ".0", 1);
        fault(SWARM, ".100", 3);
        fault(SWARM, ".990", 3);
        fault(SWARM, ".999", 3);
        fault(SWARM, ".-1", 1);
        fault(SWARM, ".", 1);
        fault(SWARM, "..1", 1);
        fault(SWARM, ".;", 1);
        fault(SWARM, ".1+", 2);
        Run near = then(hive(0, 60, 0, 1), nearTheLastDay());
        inside("to the last day", then(near, text(".9")), HiveBylaws::perform, 1);
        stops(near, ".10", 0, FULL);
        stops(near, ".9;.1", 1, FULL);
    }

    private static void numbersHaveNoZeroInFront() {
        sentence("Numbers have no zero in front, unless they are the single digit 0");
        goes(SWARM, "p0:0.0+", 1);
        goes(SWARM, "p10:4.10+", 1);
        goes(SWARM, ".10", 1);
        goes(ALL_MADE, "y0:10", 1);
        goes(ALL_MADE, "y10:0", 1);
        fault(SWARM, "p00:0.0+", 2);
        fault(SWARM, "p01:0.0+", 2);
        fault(SWARM, "p0:00.0+", 4);
        fault(SWARM, "p0:01.0+", 4);
        fault(SWARM, "p0:0.00+", 6);
        fault(SWARM, "p0:0.01+", 6);
        fault(SWARM, "p0:0.019+", 6);
        fault(ALL_MADE, "y00:1", 2);
        fault(ALL_MADE, "y01:0", 2);
        fault(ALL_MADE, "y0:00", 4);
        fault(ALL_MADE, "y0:01", 4);
        fault(SWARM, ".00", 1);
        fault(SWARM, ".01", 1);
        fault(SWARM, ".010", 1);
    }

    private static void aDigitByWhichANumberWouldBeGreaterThanToldIsNotAllowed() {
        sentence("a digit by which a number would be greater than told is not allowed.");
        for (int drone = 0; drone <= 19; drone++) {
            if (drone <= 11) {
                goes(SWARM, "p" + drone + ":6.0+", 1);
            } else {
                fault(SWARM, "p" + drone + ":6.0+", 2);
            }
        }
        for (int doing = 0; doing <= 29; doing++) {
            if (doing <= 19) {
                goes(SWARM, "p0:0." + doing + "-", 1);
            } else {
                fault(SWARM, "p0:0." + doing + "-", 6);
            }
        }
        for (int comb = 0; comb <= 9; comb++) {
            if (comb == 0 || comb == 6) {
                goes(SWARM, "p0:" + comb + ".0-", 1);
            } else if (comb > 6) {
                fault(SWARM, "p0:" + comb + ".0-", 3);
            } else {
                stops(SWARM, "p0:" + comb + ".0-", 0, NOT_POSSIBLE);
            }
        }
        for (int petition = 0; petition <= 19; petition++) {
            int drone = petition == 0 ? 1 : 0;
            if (petition <= 11) {
                goes(ALL_MADE, "y" + drone + ":" + petition, 1);
            } else {
                fault(ALL_MADE, "y" + drone + ":" + petition, 4);
            }
        }
        for (int days = 1; days <= 99; days++) {
            goes(SWARM, "." + days, 1);
        }
        for (int days : new int[] {100, 109, 190, 199, 990, 999}) {
            fault(SWARM, "." + days, 3);
        }
        fault(SWARM, ".4294967297", 3);
        fault(SWARM, "p4294967296:0.0+", 2);
    }

    private static void theFaultIsTheIndexOfTheFirstCharacterThatIsNotAllowed() {
        sentence("The fault of the text is the index, from 0, of the first character that is not allowed at its place");
        goes(SWARM, "p0:0.0+;y1:0;.1", 3);
        fault(SWARM, "?", 0);
        fault(SWARM, "p0:0.0+;y1:0;.?", 14);
        fault(SWARM, "p0:0.0+;y1:0;?", 13);
        fault(SWARM, "p0:0.0+;y1:0?", 12);
        fault(SWARM, "?0:?.0?;?", 0);
        fault(SWARM, "p0:?.0?;?", 3);
        fault(SWARM, " p0:0.0+", 0);
        fault(SWARM, "p0:0.0+ ", 7);
        fault(SWARM, repeated(".1;", 19) + ".1?", 59);
        fault(SWARM, "." + repeated("?", 59), 1);
        fault(SWARM, "." + (char) (49 + 256), 1);
        fault(SWARM, (char) (46 + 256) + "1", 0);
        fault(SWARM, (char) 0 + ".1", 0);
        fault(SWARM, ".1" + (char) 0, 2);
        // Other writings of the digit one.
        fault(SWARM, "." + (char) 0x0661, 1);
        fault(SWARM, "." + (char) 0xFF11, 1);
        // A fault ahead of what would be stopped, and behind it.
        fault(SWARM, "?;y0:11", 0);
        fault(SWARM, "y0:11;?", 6);
    }

    private static void orTheLengthOfTheTextIfItEndsTooEarly() {
        sentence("or the length of the text if it ends too early (the empty text does).");
        fault(SWARM, "", 0);
        for (String whole : new String[] {"p0:0.1+", "p11:5.19x", "y11:10", "p0:0.0+;y1:0;.1"}) {
            for (int length = 0; length < whole.length(); length++) {
                String early = whole.substring(0, length);
                if (!isWhole(early)) {
                    fault(SWARM, early, length);
                }
            }
        }
        goes(SWARM, ".1", 1);
        goes(SWARM, "p0:0.1+", 1);
        goes(SWARM, repeated(".1;", 18) + ".12;.9", 20);
        fault(SWARM, repeated(".1;", 18) + "p0:0.1", 60);
        fault(SWARM, repeated(".1;", 19) + "y1:", 60);
        fault(SWARM, repeated(".1;", 19) + "p0:", 60);
        fault(SWARM, repeated(".1;", 19) + ".1;", 60);
        goes(SWARM, repeated(".1;", 19) + ".10", 20);
        fault(SWARM, repeated(".1;", 19) + "p", 58);
        fault(SWARM, repeated(".1;", 19), 57);
    }

    /** Looked up by the words alone: all things that the document allows, written out. */
    private static final TreeSet<String> THINGS = new TreeSet<>();

    static {
        for (int drone = 0; drone <= 11; drone++) {
            for (int comb = 0; comb <= 6; comb++) {
                for (int doing = 0; doing <= 19; doing++) {
                    for (String wish : new String[] {"+", "-", "x"}) {
                        THINGS.add("p" + drone + ":" + comb + "." + doing + wish);
                    }
                }
            }
            for (int petition = 0; petition <= 11; petition++) {
                THINGS.add("y" + drone + ":" + petition);
            }
        }
        for (int days = 1; days <= 99; days++) {
            THINGS.add("." + days);
        }
    }

    private static boolean isBeginning(String piece) {
        String next = THINGS.ceiling(piece);
        return next != null && next.startsWith(piece);
    }

    private static boolean isWhole(String text) {
        return faultByWords(text) < 0;
    }

    /** The index of the first sign by which the text is not the beginning of things any more; -1 without one. */
    private static int faultByWords(String text) {
        int start = 0;
        for (int at = 0; at < text.length(); at++) {
            String piece = text.substring(start, at);
            if (text.charAt(at) == ';' && THINGS.contains(piece)) {
                start = at + 1;
            } else if (!isBeginning(piece + text.charAt(at))) {
                return at;
            }
        }
        return THINGS.contains(text.substring(start)) ? -1 : text.length();
    }

    private static void theFaultOfEveryBeginningAndEverySignBehindIt() {
        sentence("The fault of the text is the index, from 0, of the first character that is not allowed at its place,"
                + " or the length of the text if it ends too early (the empty text does).");
        TreeSet<String> beginnings = new TreeSet<>();
        for (String thing : THINGS) {
            for (int length = 0; length <= thing.length(); length++) {
                beginnings.add(thing.substring(0, length));
            }
        }
        HiveBylaws x = new HiveBylaws();
        int calls = 0;
        for (String beginning : beginnings) {
            for (char sign : "0123456789:.+-xpy;? ".toCharArray()) {
                String text = beginning + sign;
                if (calls + text.length() + 2 > 512) {
                    x = new HiveBylaws();
                    calls = 0;
                }
                text(text).on(x);
                int fault = faultByWords(text);
                int answer = x.perform();
                calls += text.length() + 2;
                // Without drones nothing but days is possible.
                boolean isWhole = fault < 0 && (text.charAt(0) == '.' ? answer == 1 : answer == NOT_POSSIBLE);
                holds("\"" + text + "\" answered " + answer, isWhole || answer == -100 - fault);
            }
        }
    }
}
