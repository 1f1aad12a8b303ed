/** The boundaries in the document's 'Terms': SEASONS, HEARINGS. */
public final class BoundaryHearingsTest extends Boundary {
    public static void main(String[] args) {
        aDayIsZeroAtFirstASeasonToo();
        aSeasonHasAsManyDaysAsTheSettingTells();
        ifTheyAreAsManyAsTheSettingTellsOrMoreThenThereIsAHearing();
        thoseWithMoreSupportFirstOfLikeSupportTheLowerNumber();
        theQueenRefusesOneForTheFirstOfTheseReasons();
        reason1ItsSupportIsBelowTheSetting();
        reason2ItsSupportIsNotGreaterThanThatOfThatOneWas();
        reason2ForTheSameCombAboutTheSameDoingOfTheSameKind();
        reason2AtTheHearingThatEndedTheSeasonAhead();
        reason2OfSeveralTheGreatest();
        reason2ARefusalOfEveryDroneIsKnown();
        reason3ABylawOfTheHiveSaysOtherwise();
        reason4ABylawThereSaysSoAlready();
        reason4ThereIsNoBylawToRepeal();
        reason5TwiceItsSupportIsNotAboveTheWeight();
        otherwiseItPasses();
        whatPassesCountsForThoseThatAreHeardBehindIt();
        Check.end();
    }

    private static void aDayIsZeroAtFirstASeasonToo() {
        sentence("A day is 0 at first, a season, too.");
        inside("the first day", x -> {}, x -> x.count(0), 0);
        inside("the first season", x -> {}, x -> x.count(1), 0);
        inside("days of the first season", x -> {}, x -> x.count(2), 0);
        inside("the second day", days(1), x -> x.count(0), 1);
        inside("the first season goes on", days(9), x -> x.count(1), 0);
        inside("the second season", days(10), x -> x.count(1), 1);
    }

    private static void aSeasonHasAsManyDaysAsTheSettingTells() {
        sentence("A season has as many days as the setting 1 tells (1 to 60; 10 at first).");
        inside("10 at first", x -> {}, x -> x.count(13), 10);
        inside("9 of 10", days(9), x -> x.count(1), 0);
        inside("10 of 10", days(10), x -> x.count(1), 1);
        inside("1", x -> {}, x -> x.set(1, 1), 10);
        inside("1 of 1", then(hive(5, 1), days(1)), x -> x.count(1), 1);
        inside("99 of 1", then(hive(5, 1), days(99)), x -> x.count(1), 99);
        inside("60", x -> {}, x -> x.set(1, 60), 10);
        inside("59 of 60", then(hive(5, 60), days(59)), x -> x.count(1), 0);
        inside("60 of 60", then(hive(5, 60), days(60)), x -> x.count(1), 1);
        for (int value : new int[] {0, 61, -1, MIN, MAX}) {
            outside("" + value, x -> {}, x -> x.set(1, value), BAD_VALUE);
        }
    }

    private static void ifTheyAreAsManyAsTheSettingTellsOrMoreThenThereIsAHearing() {
        sentence("When a day ends, the days of the season are 1 more; if they are as many as the setting 1 tells,"
                + " or more, then there is a hearing, the season is 1 more, its days are 0, and there are no petitions.");
        Run made = then(hive(5, 10, 2, 5), petitions(0, 2, 7, FORBID));
        Run fewer = then(made, days(9));
        inside("9 of 10: nothing is heard", fewer, x -> x.count(4), 0);
        inside("9 of 10: season", fewer, x -> x.count(1), 0);
        inside("9 of 10: days", fewer, x -> x.count(2), 9);
        inside("9 of 10: petitions", fewer, x -> x.count(6), 1);
        Run asMany = then(made, days(10));
        inside("10 of 10: it is heard", asMany, x -> x.count(4), 1);
        inside("10 of 10: season", asMany, x -> x.count(1), 1);
        inside("10 of 10: days", asMany, x -> x.count(2), 0);
        inside("10 of 10: petitions", asMany, x -> x.count(6), 0);
        inside("11 of 10: days", then(made, days(11)), x -> x.count(2), 1);
        Run five = then(made, days(5));
        for (int length = 1; length <= 6; length++) {
            int value = length;
            Run shorter = then(five, x -> x.set(1, value));
            inside("setting " + value + " behind 5 days: no hearing yet", shorter, x -> x.count(1), 0);
            inside("setting " + value + " behind 5 days: it passes with the next", shorter, x -> x.pass(1), 1);
            inside("setting " + value + " behind 5 days: days", then(shorter, days(1)), x -> x.count(2), 0);
            inside("setting " + value + " behind 5 days: season", then(shorter, days(1)), x -> x.count(1), 1);
        }
        Run longer = then(five, x -> x.set(1, 7));
        inside("setting 7 behind 5 days: not with the next", longer, x -> x.pass(1), 0);
        inside("setting 7 behind 5 days: days", then(longer, days(1)), x -> x.count(2), 6);
        inside("setting 7 behind 5 days: with the next but one", longer, x -> x.pass(2), 1);
        Run longest = then(fewer, x -> x.set(1, 60));
        inside("setting 60 behind 9 days: not yet", longest, x -> x.pass(50), 0);
        inside("setting 60 behind 9 days: then", longest, x -> x.pass(51), 1);
    }

    private static void thoseWithMoreSupportFirstOfLikeSupportTheLowerNumber() {
        sentence("At a hearing the petitions are heard one after the other,"
                + " those with more support first, of like support the lower number.");
        for (int weight = 4; weight <= 6; weight++) {
            // All want another thing of the same spot: the one that is heard last stays.
            Run made = then(hive(0, 1, 2, 5, 2, weight), petitions(0, 2, 7, FORBID, 1, 2, 7, ALLOW));
            boolean secondFirst = weight > 5;
            inside("5 and " + weight + ": first", made, x -> x.heard(0), secondFirst ? 1 : 0);
            inside("5 and " + weight + ": last", made, x -> x.heard(1), secondFirst ? 0 : 1);
            inside("5 and " + weight + ": what stays", then(made, days(1)), x -> x.bylaw(0, 2), secondFirst ? FORBID : ALLOW);
            inside("5 and " + weight + ": its strength", then(made, days(1)), x -> x.bylaw(0, 3), secondFirst ? 5 : weight);
        }
        Run like = then(swarm(0, 1, 12, 2, 4), petitionsOfAll(12));
        for (int rank = 0; rank < 12; rank++) {
            int number = rank;
            inside("twelve of like support: rank " + rank, like, x -> x.heard(number), rank);
        }
        Run last = then(like, x -> x.second(0, 11));
        inside("the twelfth has more", last, x -> x.heard(0), 11);
        inside("the first behind it", last, x -> x.heard(1), 0);
        inside("the eleventh is last", last, x -> x.heard(11), 10);
    }

    private static void theQueenRefusesOneForTheFirstOfTheseReasons() {
        sentence("The queen refuses one for the first of these reasons:");
        // The same, at comb 2, was refused ahead with 5, and the hive allows with 9.
        Run refused = then(hive(0, 1, 2, 5, 3, 9), petitions(1, HIVE, 7, ALLOW), days(1), petitions(0, 2, 7, FORBID), days(1),
                petitions(0, 2, 7, FORBID));
        inside("2 and 3", refused, x -> x.reason(0), 2);
        inside("1, 2 and 3", then(refused, x -> x.set(0, 6)), x -> x.reason(0), 1);
        inside("2 and 3 at her mood", then(refused, x -> x.set(0, 5)), x -> x.reason(0), 2);
        inside("3 alone", then(refused, days(1), days(1), petitions(0, 2, 7, FORBID)), x -> x.reason(0), 3);
        // A bylaw of the comb forbids with 5, and one of the hive allows with 9.
        Run there = then(hive(0, 1, 2, 5, 3, 9), petitions(0, 2, 7, FORBID), days(1), petitions(1, HIVE, 7, ALLOW), days(1),
                petitions(0, 2, 7, FORBID));
        inside("3 and 4", there, x -> x.reason(0), 3);
        inside("1, 3 and 4", then(there, x -> x.set(0, 6)), x -> x.reason(0), 1);
        inside("2, 3 and 4", then(there, days(1), petitions(0, 2, 7, FORBID)), x -> x.reason(0), 2);
        // There is nothing to repeal, and no swarm for it.
        Run nothing = then(hive(0, 1, 2, 5, 2, 9), petitions(0, 2, 7, REPEAL));
        inside("4 and 5", nothing, x -> x.reason(0), 4);
        inside("1, 4 and 5", then(nothing, x -> x.set(0, 6)), x -> x.reason(0), 1);
        inside("2, 4 and 5", then(nothing, days(1), petitions(0, 2, 7, REPEAL)), x -> x.reason(0), 2);
        Run repeal = then(hive(0, 1, 2, 5, 2, 9), petitions(1, 2, 7, FORBID), days(1), petitions(0, 2, 7, REPEAL));
        inside("5 alone", repeal, x -> x.reason(0), 5);
        inside("1 and 5", then(repeal, x -> x.set(0, 6)), x -> x.reason(0), 1);
        inside("2 and 5", then(repeal, days(1), petitions(0, 2, 7, REPEAL)), x -> x.reason(0), 2);
    }

    private static void reason1ItsSupportIsBelowTheSetting() {
        sentence("1 its support is below the setting 0 (0 to 60; 5 at first: her mood)");
        inside("5 at first", x -> {}, x -> x.count(12), 5);
        Run first = then(x -> x.come(2, 4), x -> x.come(2, 5), petitions(0, 2, 7, FORBID, 1, 2, 8, FORBID));
        inside("4 of 5", first, x -> x.reason(0), 1);
        inside("5 of 5", first, x -> x.reason(1), 0);
        inside("1 of 0", then(hive(0, 10, 2, 1), petitions(0, 2, 7, FORBID)), x -> x.reason(0), 0);
        inside("1 of 1", then(hive(1, 10, 2, 1), petitions(0, 2, 7, FORBID)), x -> x.reason(0), 0);
        inside("1 of 2", then(hive(2, 10, 2, 1), petitions(0, 2, 7, FORBID)), x -> x.reason(0), 1);
        Run sixty = then(swarm(60, 10, 12, 2, 5), petitions(0, 2, 7, FORBID), allSecond(0));
        inside("60 of 60", sixty, x -> x.reason(0), 0);
        inside("60 of 60 passes", sixty, x -> x.pass(10), 1);
        Run lighter = then(hive(60, 10, 2, 4), swarm(60, 10, 11, 2, 5), petitions(0, 2, 7, FORBID), allSecond(0));
        inside("59", lighter, x -> x.petitionOf(0, 4), 59);
        inside("59 of 60", lighter, x -> x.reason(0), 1);
        inside("59 of 60 does not pass", lighter, x -> x.pass(10), 0);
        inside("setting 0", x -> {}, x -> x.set(0, 0), 5);
        inside("setting 60", x -> {}, x -> x.set(0, 60), 5);
        for (int value : new int[] {-1, 61, MIN, MAX}) {
            outside("" + value, x -> {}, x -> x.set(0, value), BAD_VALUE);
        }
    }

    /** Drone 0 asked with 5 for comb 2 about doing 1, and was refused; her mood was bad then. */
    private static Run refusedWithFive(int kind) {
        return then(hive(60, 1, 2, 5, 2, 1, 2, 4, 3, 9), petitions(0, 2, 1, kind), days(1), x -> x.set(0, 0));
    }

    private static void reason2ItsSupportIsNotGreaterThanThatOfThatOneWas() {
        sentence("2 she refused a petition for the same comb, about the same doing, of the same kind"
                + " at the hearing that ended the season ahead (none, if nothing was heard at it),"
                + " and its support is not greater than that of that one was");
        Run less = then(refusedWithFive(FORBID), petitions(2, 2, 1, FORBID));
        inside("4 behind 5", less, x -> x.reason(0), 2);
        inside("4 behind 5 does not pass", less, x -> x.pass(1), 0);
        Run like = then(less, x -> x.second(1, 0));
        inside("5 behind 5", like, x -> x.reason(0), 2);
        inside("5 behind 5 does not pass", like, x -> x.pass(1), 0);
        Run more = then(refusedWithFive(FORBID), petitions(0, 2, 1, FORBID), x -> x.second(1, 0));
        inside("6 behind 5", more, x -> x.reason(0), 0);
        inside("6 behind 5 passes", more, x -> x.pass(1), 1);
        Run repealLike = then(refusedWithFive(REPEAL), petitions(0, 2, 1, REPEAL));
        inside("a repeal: 5 behind 5", repealLike, x -> x.reason(0), 2);
        inside("a repeal: 6 behind 5", then(repealLike, x -> x.second(1, 0)), x -> x.reason(0), 4);
        Run most = then(swarm(60, 1, 12, 2, 5), petitions(0, HIVE, 1, REPEAL), allSecond(0), days(1));
        inside("the whole swarm is not above itself", then(most, petitions(0, HIVE, 1, REPEAL), allSecond(0)),
                x -> x.reason(0), 2);
    }

    private static void reason2ForTheSameCombAboutTheSameDoingOfTheSameKind() {
        sentence("for the same comb, about the same doing, of the same kind");
        Run refused = refusedWithFive(FORBID);
        inside("all the same", then(refused, petitions(0, 2, 1, FORBID)), x -> x.reason(0), 2);
        inside("of another drone", then(refused, petitions(2, 2, 1, FORBID)), x -> x.reason(0), 2);
        inside("for the hive", then(refused, petitions(0, HIVE, 1, FORBID)), x -> x.reason(0), 0);
        inside("for another comb", then(refused, x -> x.move(0, 1), petitions(0, 1, 1, FORBID)), x -> x.reason(0), 0);
        inside("about the doing behind it", then(refused, petitions(0, 2, 2, FORBID)), x -> x.reason(0), 0);
        inside("about the doing ahead of it", then(refused, petitions(0, 2, 0, FORBID)), x -> x.reason(0), 0);
        inside("of another kind", then(refused, petitions(0, 2, 1, ALLOW)), x -> x.reason(0), 0);
        inside("a repeal", then(refused, petitions(0, 2, 1, REPEAL)), x -> x.reason(0), 4);
        inside("allowed, and then forbidden", then(refusedWithFive(ALLOW), petitions(0, 2, 1, FORBID)), x -> x.reason(0), 0);
        inside("a repeal, and then forbidden", then(refusedWithFive(REPEAL), petitions(0, 2, 1, FORBID)), x -> x.reason(0), 0);
    }

    private static void reason2AtTheHearingThatEndedTheSeasonAhead() {
        sentence("at the hearing that ended the season ahead (none, if nothing was heard at it)");
        Run refused = refusedWithFive(FORBID);
        inside("the season ahead", then(refused, petitions(0, 2, 1, FORBID)), x -> x.reason(0), 2);
        inside("the season ahead of that one; nothing was heard since", then(refused, days(1), petitions(0, 2, 1, FORBID)),
                x -> x.reason(0), 0);
        inside("the season ahead of that one; another was refused since",
                then(refused, x -> x.set(0, 5), petitions(2, 2, 0, FORBID), days(1), petitions(0, 2, 1, FORBID)),
                x -> x.reason(0), 0);
        inside("the season ahead of that one; another passed since",
                then(refused, petitions(2, 2, 0, FORBID), days(1), petitions(0, 2, 1, FORBID)), x -> x.reason(0), 0);
        Run again = then(refused, petitions(0, 2, 1, FORBID), days(1), petitions(0, 2, 1, FORBID));
        inside("refused again and again", again, x -> x.reason(0), 2);
        inside("not at the hearing itself: the like one behind is refused by the bylaw",
                then(hive(0, 1, 2, 5, 2, 4), petitions(0, 2, 1, FORBID, 1, 2, 1, FORBID)), x -> x.reason(1), 4);
        inside("not at the hearing itself: both are below her mood",
                then(hive(6, 1, 2, 5, 2, 4), petitions(0, 2, 1, FORBID, 1, 2, 1, FORBID)), x -> x.reason(1), 1);
        Run passed = then(hive(0, 1, 2, 5), petitions(0, 2, 1, FORBID), days(1), petitions(0, 2, 1, FORBID));
        inside("what passed was not refused", passed, x -> x.reason(0), 4);
        Run within = then(hive(60, 3, 2, 5), petitions(0, 2, 1, FORBID), days(3), x -> x.set(0, 0), days(2));
        inside("to the last day of the next season", then(within, petitions(0, 2, 1, FORBID)), x -> x.reason(0), 2);
        inside("not in the one behind it", then(within, days(1), petitions(0, 2, 1, FORBID)), x -> x.reason(0), 0);
    }

    private static void reason2OfSeveralTheGreatest() {
        sentence("(of several the greatest)");
        for (int turn = 0; turn <= 1; turn++) {
            // 5 and 3 were refused, in this order and in the other one.
            Run ahead = turn == 0 ? petitions(0, 2, 1, FORBID, 1, 2, 1, FORBID) : petitions(1, 2, 1, FORBID, 0, 2, 1, FORBID);
            Run refused = then(hive(60, 1, 2, 5, 2, 3, 2, 1), ahead, days(1), x -> x.set(0, 0));
            inside("3 behind 5 and 3", then(refused, petitions(1, 2, 1, FORBID)), x -> x.reason(0), 2);
            inside("4 behind 5 and 3", then(refused, petitions(1, 2, 1, FORBID), x -> x.second(2, 0)), x -> x.reason(0), 2);
            inside("5 behind 5 and 3", then(refused, petitions(0, 2, 1, FORBID)), x -> x.reason(0), 2);
            inside("6 behind 5 and 3", then(refused, petitions(0, 2, 1, FORBID), x -> x.second(2, 0)), x -> x.reason(0), 0);
        }
    }

    /** The hive says this of doing 7, with the strength 5; drone 0 of weight 4 and drone 2 live at comb 2. */
    private static Run hiveSays(int stance) {
        return then(hive(0, 1, 2, 4, 3, 5, 2, 1), petitions(1, HIVE, 7, stance), days(1));
    }

    private static void reason2ARefusalOfEveryDroneIsKnown() {
        sentence("2 she refused a petition for the same comb, about the same doing, of the same kind");
        Run refused = then(swarm(60, 1, 12, 2, 3), petitionsOfAll(12), days(1), x -> x.set(0, 0));
        for (int doing = 0; doing <= 13; doing++) {
            int what = doing;
            // Twelve were refused, about the doings 0 to 11.
            inside("doing " + doing, then(refused, x -> x.petition(0, 2, what, FORBID)), x -> x.reason(0), doing <= 11 ? 2 : 0);
        }
        Run all = then(refused, petitionsOfAll(12));
        inside("none of the twelve passes", all, HiveBylaws::wouldPass, 0);
        inside("twelve refused, and twelve again", then(all, days(1), petitionsOfAll(12)), HiveBylaws::wouldPass, 0);
        inside("all of them are forgotten a season later", then(refused, days(1), petitionsOfAll(12)), HiveBylaws::wouldPass, 4095);
    }

    private static void reason3ABylawOfTheHiveSaysOtherwise() {
        sentence("3 it is for a comb, not a repeal, and a bylaw of the hive about the doing says otherwise,"
                + " with a strength above its support");
        for (int kind = FORBID; kind <= ALLOW; kind++) {
            Run other = hiveSays(1 - kind);
            Run weaker = then(other, petitions(0, 2, 7, kind));
            inside("4 against 5", weaker, x -> x.reason(0), 3);
            inside("4 against 5 does not pass", weaker, x -> x.pass(1), 0);
            Run like = then(weaker, x -> x.second(2, 0));
            inside("5 against 5", like, x -> x.reason(0), 0);
            inside("5 against 5 passes", like, x -> x.pass(1), 1);
            Run more = then(other, x -> x.come(2, 6), petitions(3, 2, 7, kind));
            inside("6 against 5", more, x -> x.reason(0), 0);
            inside("it says the same", then(hiveSays(kind), petitions(0, 2, 7, kind)), x -> x.reason(0), 0);
            inside("about another doing", then(other, petitions(0, 2, 6, kind)), x -> x.reason(0), 0);
            inside("for the hive itself", then(other, petitions(0, HIVE, 7, kind)), x -> x.reason(0), 0);
            inside("a repeal", then(other, petitions(0, 2, 7, REPEAL)), x -> x.reason(0), 4);
        }
        Run atComb = then(hive(0, 1, 2, 9, 3, 4), petitions(0, 2, 7, ALLOW), days(1));
        inside("a bylaw of another comb", then(atComb, petitions(1, 3, 7, FORBID)), x -> x.reason(0), 0);
        Run repealed = then(hive(0, 1, 2, 9, 3, 4), petitions(0, HIVE, 7, ALLOW), days(1), petitions(0, HIVE, 7, REPEAL), days(1));
        inside("the hive's is gone", then(repealed, petitions(1, 3, 7, FORBID)), x -> x.reason(0), 0);
    }

    private static void reason4ABylawThereSaysSoAlready() {
        sentence("4 it brings nothing: a bylaw there says so already with at least its support");
        for (int place : new int[] {2, HIVE}) {
            for (int kind = FORBID; kind <= ALLOW; kind++) {
                Run there = then(hive(0, 1, 2, 5, 2, 4, 2, 6), petitions(0, place, 7, kind), days(1));
                inside("4 behind 5", then(there, petitions(1, place, 7, kind)), x -> x.reason(0), 4);
                inside("5 behind 5", then(there, petitions(0, place, 7, kind)), x -> x.reason(0), 4);
                inside("5 behind 5 does not pass", then(there, petitions(0, place, 7, kind)), x -> x.pass(1), 0);
                Run more = then(there, petitions(2, place, 7, kind));
                inside("6 behind 5", more, x -> x.reason(0), 0);
                inside("6 behind 5 passes", more, x -> x.pass(1), 1);
                inside("4 that says otherwise", then(there, petitions(1, place, 7, 1 - kind)), x -> x.reason(0), 0);
                inside("4 about another doing", then(there, petitions(1, place, 8, kind)), x -> x.reason(0), 0);
            }
        }
        Run ofHive = then(hive(0, 1, 2, 5, 2, 4), petitions(0, HIVE, 7, FORBID), days(1));
        inside("the hive's is not there", then(ofHive, petitions(1, 2, 7, FORBID)), x -> x.reason(0), 0);
        Run ofComb = then(hive(0, 1, 2, 5, 2, 4), petitions(0, 2, 7, FORBID), days(1));
        inside("the comb's is not there", then(ofComb, petitions(1, HIVE, 7, FORBID)), x -> x.reason(0), 0);
        Run gone = then(ofComb, petitions(0, 2, 7, REPEAL), days(1));
        inside("it is gone", then(gone, petitions(1, 2, 7, FORBID)), x -> x.reason(0), 0);
    }

    private static void reason4ThereIsNoBylawToRepeal() {
        sentence("or there is no bylaw to repeal");
        Run ofComb = then(hive(0, 1, 2, 5, 3, 4), petitions(0, 2, 7, FORBID), days(1));
        inside("one is there", then(ofComb, petitions(0, 2, 7, REPEAL)), x -> x.reason(0), 0);
        inside("none about the doing behind", then(ofComb, petitions(0, 2, 8, REPEAL)), x -> x.reason(0), 4);
        inside("none about the doing ahead", then(ofComb, petitions(0, 2, 6, REPEAL)), x -> x.reason(0), 4);
        inside("none of the hive", then(ofComb, petitions(0, HIVE, 7, REPEAL)), x -> x.reason(0), 4);
        inside("none of the other comb", then(ofComb, petitions(1, 3, 7, REPEAL)), x -> x.reason(0), 4);
        inside("it is gone", then(ofComb, petitions(0, 2, 7, REPEAL), days(1), petitions(0, 2, 7, REPEAL)), x -> x.reason(0), 4);
        Run ofHive = then(hive(0, 1, 2, 5, 3, 4), petitions(0, HIVE, 7, FORBID), days(1));
        inside("the hive's is there", then(ofHive, petitions(0, HIVE, 7, REPEAL)), x -> x.reason(0), 0);
        inside("none of the comb", then(ofHive, petitions(0, 2, 7, REPEAL)), x -> x.reason(0), 4);
    }

    private static void reason5TwiceItsSupportIsNotAboveTheWeight() {
        sentence("5 it is a repeal, and twice its support is not above the weight of all drones whom the bylaw concerns.");
        for (int place : new int[] {2, HIVE}) {
            // The others weigh 4 to 6 together with drone 0 of weight 5: 9, 10 or 11.
            for (int other = 4; other <= 6; other++) {
                Run repeal = then(hive(0, 1, 2, 5, 2, other), petitions(0, place, 7, FORBID), days(1),
                        petitions(0, place, 7, REPEAL));
                String what = "5 of " + (5 + other);
                inside(what, repeal, x -> x.reason(0), other < 5 ? 0 : 5);
                inside(what + " passes", repeal, x -> x.pass(1), other < 5 ? 1 : 0);
            }
            Run most = then(swarm(0, 1, 12, 2, 9), petitions(0, place, 7, FORBID), days(1), petitions(0, place, 7, REPEAL),
                    x -> x.second(1, 0), x -> x.second(2, 0), x -> x.second(3, 0), x -> x.second(4, 0), x -> x.second(5, 0));
            inside("54 of 108", most, x -> x.reason(0), 5);
            inside("63 of 108", then(most, x -> x.second(6, 0)), x -> x.reason(0), 0);
        }
        Run elsewhere = then(hive(0, 1, 2, 5, 3, 9), petitions(0, 2, 7, FORBID), days(1), petitions(0, 2, 7, REPEAL));
        inside("those of another comb are not concerned", elsewhere, x -> x.reason(0), 0);
        inside("but when they come there", then(elsewhere, x -> x.move(1, 2)), x -> x.reason(0), 5);
        inside("nobody is concerned", then(elsewhere, x -> x.move(0, 1)), x -> x.reason(0), 0);
        Run supported = then(elsewhere, x -> x.move(0, 1), x -> x.move(1, 2));
        inside("5 of 9, of one who does not live there", supported, x -> x.reason(0), 0);
        inside("5 of 10", then(supported, x -> x.come(2, 1)), x -> x.reason(0), 5);
        inside("a bylaw needs no swarm", then(hive(0, 1, 2, 1, 2, 9, 2, 9), petitions(0, 2, 7, FORBID)), x -> x.reason(0), 0);
    }

    private static void otherwiseItPasses() {
        sentence("Otherwise it passes: a bylaw is made, or takes the place of the one there,"
                + " with its support as the strength, and this season; or the bylaw there is gone.");
        Run made = then(hive(0, 1, 2, 5, 2, 9), petitions(1, 2, 7, FORBID), days(1));
        inside("made", made, x -> x.count(4), 1);
        inside("its support", made, x -> x.bylaw(0, 3), 9);
        inside("its season", made, x -> x.bylaw(0, 4), 0);
        Run otherwise = then(made, petitions(0, 2, 7, ALLOW), days(1));
        inside("a weaker one that says otherwise: one", otherwise, x -> x.count(4), 1);
        inside("a weaker one that says otherwise: what", otherwise, x -> x.bylaw(0, 2), ALLOW);
        inside("a weaker one that says otherwise: strength", otherwise, x -> x.bylaw(0, 3), 5);
        inside("a weaker one that says otherwise: season", otherwise, x -> x.bylaw(0, 4), 1);
        Run stronger = then(made, petitions(0, 2, 7, FORBID), x -> x.second(1, 0), days(1));
        inside("a stronger one that says so: strength", stronger, x -> x.bylaw(0, 3), 14);
        inside("a stronger one that says so: season", stronger, x -> x.bylaw(0, 4), 1);
        Run like = then(made, petitions(1, 2, 7, FORBID), days(1));
        inside("one of like strength that says so is refused: season", like, x -> x.bylaw(0, 4), 0);
        Run gone = then(made, petitions(1, 2, 7, REPEAL), days(1));
        inside("gone", gone, x -> x.count(4), 0);
        inside("gone: none is told", gone, x -> x.bylaw(0, 0), NONE);
        Run refused = then(made, petitions(0, 2, 7, REPEAL), days(1));
        inside("a refused repeal leaves it", refused, x -> x.bylaw(0, 3), 9);
        inside("a refused repeal leaves its season", refused, x -> x.bylaw(0, 4), 0);
    }

    private static void whatPassesCountsForThoseThatAreHeardBehindIt() {
        sentence("What passes counts for those that are heard behind it.");
        Run twice = then(hive(0, 1, 2, 5, 2, 5), petitions(0, 2, 7, FORBID, 1, 2, 7, FORBID));
        inside("ahead", twice, x -> x.reason(0), 0);
        inside("behind", twice, x -> x.reason(1), 4);
        inside("one passes", twice, x -> x.pass(1), 1);
        Run turned = then(hive(0, 1, 2, 5, 2, 6), petitions(0, 2, 7, FORBID, 1, 2, 7, FORBID));
        inside("the first is behind the one with more support", turned, x -> x.reason(0), 4);
        inside("the second is ahead", turned, x -> x.reason(1), 0);
        Run ofHive = then(hive(0, 1, 2, 5, 3, 6), petitions(0, 2, 7, FORBID, 1, HIVE, 7, ALLOW));
        inside("behind a bylaw of the hive", ofHive, x -> x.reason(0), 3);
        Run likeHive = then(hive(0, 1, 2, 5, 3, 5), petitions(1, HIVE, 7, ALLOW, 0, 2, 7, FORBID));
        inside("behind one of like strength", likeHive, x -> x.reason(1), 0);
        Run made = then(hive(0, 1, 2, 5, 2, 4), petitions(0, 2, 7, FORBID, 1, 2, 7, REPEAL));
        inside("a repeal behind what it repeals: 4 of 9", made, x -> x.reason(1), 5);
        Run repealed = then(made, x -> x.second(0, 1));
        inside("a repeal ahead of what it would repeal", repealed, x -> x.reason(1), 4);
        Run likeRepeal = then(hive(0, 1, 2, 5, 3, 5), x -> x.move(1, 2), petitions(0, 2, 7, FORBID, 1, 2, 7, REPEAL),
                x -> x.move(1, 3));
        inside("a repeal of like support behind what it repeals: 5 of 5", likeRepeal, x -> x.pass(1), 2);
        inside("both passed, nothing stands", then(likeRepeal, days(1)), x -> x.count(4), 0);
        Run refused = then(hive(0, 1, 2, 5, 2, 6), petitions(1, 2, 7, REPEAL, 0, 2, 7, FORBID));
        inside("behind a refused repeal", refused, x -> x.reason(1), 0);
        inside("behind a refused repeal it stands", then(refused, days(1)), x -> x.count(4), 1);
    }
}
