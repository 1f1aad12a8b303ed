/** The boundaries in the document's 'What it is', and in its 'Terms': DRONES, BYLAWS, and PETITIONS. */
public final class BoundaryDronesTest extends Boundary {
    public static void main(String[] args) {
        anObjectIsUsedForAtMost512Calls();
        thereAreSixCombsAndSixIsTheWholeHive();
        atMostTwelveDronesAreKnown();
        thereAreTwentyDoings();
        aBylawAllowsItOrForbidsIt();
        thereIsAtMostOneForEachCombAndDoing();
        itHasAStrengthAndTheSeasonInWhichItWasMade();
        aBylawConcernsTheDronesOfItsComb();
        ofBothByTheStrongerOneOfLikeOnesByThatOfTheComb();
        withoutAnyItIsAllowed();
        inASeasonADroneCanMakeOnePetition();
        petitionsOfASeasonAreNumberedFromZero();
        eachOtherDroneCanSecondAPetitionOnce();
        theSupportIsTheWeightOfItsDroneAndOfThoseWhoSecondIt();
        Check.end();
    }

    private static void anObjectIsUsedForAtMost512Calls() {
        sentence("An object is used for at most 512 calls after it has been made; what later calls answer is free.");
        for (int calls = 509; calls <= 512; calls++) {
            int ahead = calls - 1;
            inside("an act is call " + calls, callsAhead(ahead), x -> x.come(5, 9), 1);
            inside("a question is call " + calls, callsAhead(ahead), x -> x.drone(0, 1), 3);
            inside("undo is call " + calls, callsAhead(ahead), HiveBylaws::undo, 3);
            inside("a character is call " + calls, callsAhead(ahead), x -> x.type('p'), 1);
        }
    }

    /** One drone of weight 3, and a setting that turns to and fro. */
    private static Run callsAhead(int calls) {
        return x -> {
            x.come(2, 3);
            for (int i = 1; i < calls; i++) {
                x.set(0, i % 2);
            }
        };
    }

    private static void thereAreSixCombsAndSixIsTheWholeHive() {
        sentence("There are 6 combs, 0 to 5; the number 6 stands for the whole hive.");
        Run one = hive(0, 10, 2, 4);
        for (int comb : new int[] {0, 5}) {
            inside("come to comb " + comb, one, x -> x.come(comb, 1), 1);
            inside("move to comb " + comb, one, x -> x.move(0, comb), 2);
            inside("live at comb " + comb, then(one, x -> x.move(0, comb)), x -> x.drone(0, 0), comb);
            inside("petition for comb " + comb, hive(0, 10, comb, 4), x -> x.petition(0, comb, 0, FORBID), 0);
            inside("rule at comb " + comb, one, x -> x.rule(comb, 0, 0), 1);
        }
        for (int comb : new int[] {-1, 6, MIN, MAX}) {
            outside("come to " + comb, one, x -> x.come(comb, 1), UNKNOWN);
            outside("move to " + comb, one, x -> x.move(0, comb), UNKNOWN);
            outside("rule at " + comb, one, x -> x.rule(comb, 0, 0), UNKNOWN);
        }
        inside("petition for the hive", one, x -> x.petition(0, 6, 0, FORBID), 0);
        inside("of the hive", then(one, petitions(0, 6, 0, FORBID), days(10)), x -> x.bylaw(0, 0), 6);
        for (int comb : new int[] {-1, 7, MIN, MAX}) {
            outside("petition for " + comb, one, x -> x.petition(0, comb, 0, FORBID), UNKNOWN);
        }
    }

    private static void atMostTwelveDronesAreKnown() {
        sentence("At most 12 drones are known, numbered from 0, each with a comb and a weight (1 to 9).");
        inside("the first", hive(0, 10), x -> x.come(0, 1), 0);
        inside("the twelfth", swarm(0, 10, 11, 0, 1), x -> x.come(0, 1), 11);
        inside("twelve", swarm(0, 10, 12, 0, 1), x -> x.count(3), 12);
        outside("the thirteenth", swarm(0, 10, 12, 0, 1), x -> x.come(0, 1), FULL);
        inside("weight 1", hive(0, 10), x -> x.come(3, 1), 0);
        inside("weight 9", hive(0, 10), x -> x.come(3, 9), 0);
        inside("of weight 1", hive(0, 10, 3, 1), x -> x.drone(0, 1), 1);
        inside("of weight 9", hive(0, 10, 3, 9), x -> x.drone(0, 1), 9);
        for (int weight : new int[] {0, 10, -1, MIN, MAX}) {
            outside("weight " + weight, hive(0, 10, 3, 5), x -> x.come(3, weight), BAD_VALUE);
        }
        Run full = swarm(0, 10, 12, 4, 7);
        for (int drone : new int[] {0, 11}) {
            inside("comb of drone " + drone, full, x -> x.drone(drone, 0), 4);
            inside("weight of drone " + drone, full, x -> x.drone(drone, 1), 7);
        }
        outside("drone -1", full, x -> x.drone(-1, 0), UNKNOWN);
        outside("drone 12", full, x -> x.drone(12, 0), UNKNOWN);
        outside("drone 0 of none", hive(0, 10), x -> x.drone(0, 0), UNKNOWN);
        outside("drone 11 of eleven", swarm(0, 10, 11, 4, 7), x -> x.drone(11, 0), UNKNOWN);
    }

    private static void thereAreTwentyDoings() {
        sentence("There are 20 doings, 0 to 19.");
        Run one = hive(0, 1, 2, 4);
        for (int doing : new int[] {0, 19}) {
            inside("petition about " + doing, one, x -> x.petition(0, 2, doing, FORBID), 0);
            Run ruled = then(one, petitions(0, 2, doing, FORBID), days(1));
            inside("bylaw about " + doing, ruled, x -> x.bylaw(0, 1), doing);
            inside("rule about " + doing, ruled, x -> x.rule(2, doing, 0), 0);
            inside("rule about the other", ruled, x -> x.rule(2, 19 - doing, 0), 1);
            inside("not at the comb behind", ruled, x -> x.rule(3, 0, 0), 1);
            inside("not at the comb ahead", ruled, x -> x.rule(1, 19, 0), 1);
        }
        for (int doing : new int[] {-1, 20, MIN, MAX}) {
            outside("petition about " + doing, one, x -> x.petition(0, 2, doing, FORBID), UNKNOWN);
            outside("petition for the hive about " + doing, one, x -> x.petition(0, 6, doing, REPEAL), UNKNOWN);
            outside("rule about " + doing, one, x -> x.rule(2, doing, 0), UNKNOWN);
        }
    }

    private static void aBylawAllowsItOrForbidsIt() {
        sentence("it allows it (1), or forbids it (0)");
        for (int place : new int[] {2, HIVE}) {
            Run forbids = then(hive(0, 1, 2, 4), petitions(0, place, 0, 0), days(1));
            inside("forbids", forbids, x -> x.bylaw(0, 2), 0);
            inside("not allowed", forbids, x -> x.rule(2, 0, 0), 0);
            Run allows = then(hive(0, 1, 2, 4), petitions(0, place, 0, 1), days(1));
            inside("allows", allows, x -> x.bylaw(0, 2), 1);
            inside("allowed", allows, x -> x.rule(2, 0, 0), 1);
        }
    }

    private static void thereIsAtMostOneForEachCombAndDoing() {
        sentence("There is at most one for each comb (or the hive) and doing.");
        Run one = then(hive(0, 1, 2, 4, 3, 5), petitions(0, 2, 0, FORBID), days(1));
        inside("one", one, x -> x.count(4), 1);
        Run again = then(one, petitions(0, 2, 0, ALLOW), days(1));
        inside("the same comb and doing: still one", again, x -> x.count(4), 1);
        inside("it is the later one", again, x -> x.bylaw(0, 2), ALLOW);
        inside("no second one", again, x -> x.bylaw(1, 0), NONE);
        inside("another doing: two", then(one, petitions(0, 2, 1, FORBID), days(1)), x -> x.count(4), 2);
        inside("another comb: two", then(one, petitions(1, 3, 0, FORBID), days(1)), x -> x.count(4), 2);
        Run withHive = then(one, petitions(0, HIVE, 0, FORBID), days(1));
        inside("the hive: two", withHive, x -> x.count(4), 2);
        inside("the hive again: still two", then(withHive, petitions(0, HIVE, 0, ALLOW), days(1)), x -> x.count(4), 2);
    }

    private static void itHasAStrengthAndTheSeasonInWhichItWasMade() {
        sentence("It has a strength, and the season in which it was made.");
        Run least = then(hive(0, 1, 0, 1), petitions(0, 0, 0, FORBID), days(1));
        inside("the least strength", least, x -> x.bylaw(0, 3), 1);
        inside("the first season", least, x -> x.bylaw(0, 4), 0);
        Run most = then(swarm(0, 1, 12, 0, 9), petitions(0, 0, 0, FORBID), allSecond(0), days(1));
        inside("the greatest strength", most, x -> x.bylaw(0, 3), 108);
        Run second = then(hive(0, 1, 0, 1), days(1), petitions(0, 0, 0, FORBID), days(1));
        inside("the second season", second, x -> x.bylaw(0, 4), 1);
        inside("later the season stays", then(least, days(99)), x -> x.bylaw(0, 4), 0);
        Run late = then(hive(0, 1, 0, 1), days(99), petitions(0, 0, 0, FORBID), days(99));
        inside("season 99", late, x -> x.bylaw(0, 4), 99);
        Run last = then(hive(0, 9, 0, 1), nearTheLastDay(), petitions(0, HIVE, 0, FORBID), days(9));
        inside("the last season", last, x -> x.bylaw(0, 4), 11110);
    }

    private static void aBylawConcernsTheDronesOfItsComb() {
        sentence("A bylaw concerns the drones of its comb; one of the hive concerns all.");
        Run both = then(hive(0, 1, 2, 4, 2, 1, 3, 5), petitions(0, 2, 0, FORBID, 2, HIVE, 0, FORBID), days(1));
        inside("those of the comb", both, x -> x.bylaw(0, 5), 5);
        inside("all", both, x -> x.bylaw(1, 5), 10);
        Run moved = then(both, x -> x.move(0, 1), x -> x.move(1, 3));
        inside("nobody", moved, x -> x.bylaw(0, 5), 0);
        inside("all, wherever they live", moved, x -> x.bylaw(1, 5), 10);
        Run came = then(both, x -> x.come(2, 9));
        inside("one who came", came, x -> x.bylaw(0, 5), 14);
        inside("all and one who came", came, x -> x.bylaw(1, 5), 19);
        inside("a drone of another comb is not bound", then(hive(0, 1, 2, 4, 3, 5), petitions(0, 2, 0, FORBID), days(1)),
                x -> x.oldest(1, 0), NONE);
        Run most = then(swarm(0, 1, 12, 5, 9), petitions(0, 5, 0, FORBID, 1, HIVE, 0, FORBID), days(1));
        inside("twelve at the comb", most, x -> x.bylaw(0, 5), 108);
        inside("twelve of the hive", most, x -> x.bylaw(1, 5), 108);
    }

    private static void ofBothByTheStrongerOneOfLikeOnesByThatOfTheComb() {
        sentence("At a comb a doing is ruled by the bylaw of the comb and that of the hive;"
                + " of both by the stronger one, of like ones by that of the comb.");
        for (int ofHive = 4; ofHive <= 6; ofHive++) {
            // The comb's has the strength 5 and forbids; the hive's allows.
            Run ruled = then(hive(0, 1, 2, 5, 3, ofHive), petitions(0, 2, 7, FORBID, 1, HIVE, 8, ALLOW), days(1),
                    petitions(1, HIVE, 7, ALLOW), days(1));
            boolean byHive = ofHive > 5;
            String what = "5 and " + ofHive + " of the hive: ";
            inside(what + "which", ruled, x -> x.rule(2, 7, 1), byHive ? HIVE : 2);
            inside(what + "how", ruled, x -> x.rule(2, 7, 0), byHive ? ALLOW : FORBID);
            inside(what + "strength", ruled, x -> x.rule(2, 7, 2), Math.max(5, ofHive));
            inside(what + "at another comb", ruled, x -> x.rule(3, 7, 1), HIVE);
            inside(what + "of the hive alone", ruled, x -> x.rule(2, 8, 1), HIVE);
            inside(what + "forbidden at combs", ruled, x -> x.count(11), byHive ? 0 : 1);
        }
        inside("of the comb alone", then(hive(0, 1, 2, 1), petitions(0, 2, 7, FORBID), days(1)), x -> x.rule(2, 7, 1), 2);
    }

    private static void withoutAnyItIsAllowed() {
        sentence("Without any it is allowed.");
        Run ruled = then(hive(0, 1, 2, 5), petitions(0, 2, 7, FORBID), days(1));
        inside("with one", ruled, x -> x.rule(2, 7, 0), 0);
        inside("without", ruled, x -> x.rule(2, 6, 0), 1);
        inside("without at that comb", ruled, x -> x.rule(1, 7, 0), 1);
        Run repealed = then(ruled, petitions(0, 2, 7, REPEAL), days(1));
        inside("without it any more", repealed, x -> x.rule(2, 7, 0), 1);
        inside("no comb", repealed, x -> x.rule(2, 7, 1), NONE);
        inside("no strength", repealed, x -> x.rule(2, 7, 2), NONE);
        inside("none is forbidden", repealed, x -> x.count(11), 0);
    }

    private static void inASeasonADroneCanMakeOnePetition() {
        sentence("In a season a drone can make one petition, for a comb or for the hive, about a doing:"
                + " that it be allowed (1), forbidden (0), or that the bylaw there be repealed (2).");
        Run two = hive(0, 2, 2, 5, 3, 4);
        for (int kind = 0; kind <= 2; kind++) {
            int wish = kind;
            inside("kind " + kind, two, x -> x.petition(0, 2, 7, wish), 0);
            inside("kind " + kind + " for the hive", two, x -> x.petition(0, HIVE, 7, wish), 0);
        }
        for (int kind : new int[] {-1, 3, MIN, MAX}) {
            outside("kind " + kind, two, x -> x.petition(0, 2, 7, kind), BAD_VALUE);
        }
        Run made = then(two, petitions(0, 2, 7, FORBID));
        outside("a second one", made, x -> x.petition(0, 2, 8, FORBID), NOT_POSSIBLE);
        outside("the same again", made, x -> x.petition(0, 2, 7, FORBID), NOT_POSSIBLE);
        outside("a second one for the hive", made, x -> x.petition(0, HIVE, 8, ALLOW), NOT_POSSIBLE);
        inside("of another drone", made, x -> x.petition(1, 3, 7, FORBID), 1);
        outside("on the last day of the season", then(made, days(1)), x -> x.petition(0, 2, 8, FORBID), NOT_POSSIBLE);
        inside("in the next season", then(made, days(2)), x -> x.petition(0, 2, 8, FORBID), 0);
        outside("for another comb", two, x -> x.petition(0, 3, 7, FORBID), NOT_POSSIBLE);
    }

    private static void petitionsOfASeasonAreNumberedFromZero() {
        sentence("Petitions of a season are numbered from 0 in the order in which they were made.");
        Run eleven = then(swarm(0, 2, 12, 2, 1), petitionsOfAll(11));
        inside("the first", swarm(0, 2, 12, 2, 1), x -> x.petition(11, 2, 0, FORBID), 0);
        inside("the twelfth", eleven, x -> x.petition(11, 2, 0, FORBID), 11);
        Run twelve = then(eleven, petitions(11, 2, 0, FORBID));
        inside("petition 11", twelve, x -> x.petitionOf(11, 0), 11);
        outside("petition 12", twelve, x -> x.petitionOf(12, 0), UNKNOWN);
        outside("petition 11 of eleven", eleven, x -> x.petitionOf(11, 0), UNKNOWN);
        outside("petition -1", twelve, x -> x.petitionOf(-1, 0), UNKNOWN);
        outside("a thirteenth", twelve, x -> x.petition(0, 2, 0, FORBID), NOT_POSSIBLE);
        inside("from 0 in the next season", then(twelve, days(2)), x -> x.petition(5, 2, 0, FORBID), 0);
        outside("none at first in the next season", then(twelve, days(2)), x -> x.petitionOf(0, 0), UNKNOWN);
        inside("by order, not by drone", then(swarm(0, 2, 3, 2, 1), petitions(2, 2, 0, FORBID, 0, 2, 0, FORBID)),
                x -> x.petitionOf(1, 0), 0);
    }

    private static void eachOtherDroneCanSecondAPetitionOnce() {
        sentence("Each other drone can second a petition, once.");
        Run made = then(hive(0, 2, 2, 5, 3, 4, 2, 1), petitions(0, 2, 7, FORBID, 1, 3, 7, FORBID));
        inside("another", made, x -> x.second(1, 0), 9);
        inside("a third", then(made, x -> x.second(1, 0)), x -> x.second(2, 0), 10);
        outside("its own", made, x -> x.second(0, 0), NOT_POSSIBLE);
        outside("its own behind another's", made, x -> x.second(1, 1), NOT_POSSIBLE);
        outside("twice", then(made, x -> x.second(1, 0)), x -> x.second(1, 0), NONE);
        inside("another petition too", then(made, x -> x.second(2, 0)), x -> x.second(2, 1), 5);
        Run next = then(made, x -> x.second(1, 0), days(2), petitions(0, 2, 7, ALLOW));
        inside("again in the next season", next, x -> x.second(1, 0), 9);
        Run full = then(swarm(0, 2, 12, 2, 1), petitionsOfAll(12));
        inside("drone 11 and petition 0", full, x -> x.second(11, 0), 2);
        inside("drone 0 and petition 11", full, x -> x.second(0, 11), 2);
        outside("drone 12", full, x -> x.second(12, 0), UNKNOWN);
        outside("petition 12", full, x -> x.second(0, 12), UNKNOWN);
    }

    private static void theSupportIsTheWeightOfItsDroneAndOfThoseWhoSecondIt() {
        sentence("The support of a petition is the weight of its drone and of those who second it.");
        inside("seconded by nobody", then(hive(0, 2, 2, 1), petitions(0, 2, 7, FORBID)), x -> x.petitionOf(0, 4), 1);
        Run most = then(swarm(0, 2, 12, 2, 9), petitions(0, 2, 7, FORBID), allSecond(0));
        inside("by all", most, x -> x.petitionOf(0, 4), 108);
        inside("by all, as a set", most, x -> x.petitionOf(0, 5), 4094);
        Run moved = then(hive(0, 2, 2, 5, 3, 4), petitions(0, 2, 7, FORBID), x -> x.second(1, 0), x -> x.move(1, 5));
        inside("of one who moved", moved, x -> x.petitionOf(0, 4), 9);
        outside("a refused seconding adds nothing", moved, x -> x.second(1, 0), NONE);
        inside("still", then(moved, x -> x.second(1, 0)), x -> x.petitionOf(0, 4), 9);
    }
}
