/** The boundaries in the document's 'Promise 1' to 'Promise 25': the ranges of arguments, and what is returned. */
public final class BoundaryPromisesTest extends Boundary {
    /** Numbers far outside of every range, and those whose low bits would be inside. */
    private static final int[] FAR = {MIN, MIN + 1, -256, -100, 100, 256, 65536, 1 << 30, MAX};

    /** Drones 0 to 2: weights 5, 4, 1, at combs 2, 3, 2; drone 0 and 1 have petitioned, and 2 seconds both. */
    private static final Run MADE = then(hive(5, 10, 2, 5, 3, 4, 2, 1), petitions(0, 2, 7, FORBID, 1, HIVE, 8, ALLOW),
            x -> x.second(2, 0), x -> x.second(2, 1));

    public static void main(String[] args) {
        promise1AHiveWithoutDronesAndBylaws();
        promise2ReturnsTheNumber();
        promise3ReturnsThePreviousComb();
        promise3PetitionsStayAsTheyAre();
        promise4ReturnsItsNumberInThisSeason();
        promise4ItIsForAnotherCombThanItsOwn();
        promise5ReturnsItsSupportThen();
        promise6ReturnsHowManyPetitionsPassInThem();
        promise6FullIfTheDayWouldBeBeyond99999();
        promise7ReturnsThePreviousOne();
        promise7ASeasonThatHasAsManyDaysAlready();
        promise8ReturnsTheLengthOfTheTextThen();
        promise9ReturnsTheLengthThatItHad();
        promise10ReturnsHowManyThingsTheTextHas();
        promise10AllOfItOrNothing();
        promise10WhatWouldReturnNoneDoesNotStopIt();
        promise11ReturnsTheNumberOrTheError();
        promise12ReturnsTheNumberOfStatesThatAreLeft();
        promise13ReturnsHowManyBylawsThereAre();
        promise14ReturnsHowManyBylawsThereAreThen();
        promise15ADrone();
        promise15WhatIsTold();
        promise16RankFromZero();
        promise16SortedByCombsThenByDoings();
        promise17APetition();
        promise18TheOrderInWhichTheyWouldBeHeard();
        promise19ByWhatADoingIsRuled();
        promise20IfTheHearingWasNow();
        promise21ThePetitionsThatWouldPass();
        promise22TheLeastNumber0To120();
        promise22NoneIfNoSupportServes();
        promise23TheDronesWhoCanStillPetition();
        promise24TheOldestBylawThatBindsADrone();
        promise24OfSeveralTheFirstOne();
        promise25Count();
        promise25AccountsAddUp();
        Check.end();
    }

    private static void promise1AHiveWithoutDronesAndBylaws() {
        sentence("Creates a hive without drones and bylaws.");
        Run fresh = x -> {};
        int[] counts = {0, 0, 0, 0, 0, 0, 0, 0, 0, 0, 0, 0, 5, 10, 0, 0};
        for (int what = 0; what < counts.length; what++) {
            int which = what;
            inside("count(" + what + ")", fresh, x -> x.count(which), counts[what]);
        }
        outside("no drone", fresh, x -> x.drone(0, 0), UNKNOWN);
        outside("no bylaw", fresh, x -> x.bylaw(0, 0), NONE);
        outside("no petition", fresh, x -> x.petitionOf(0, 0), UNKNOWN);
        outside("nothing is heard", fresh, x -> x.heard(0), NONE);
        outside("nothing to be refused", fresh, x -> x.reason(0), UNKNOWN);
        outside("nothing lacks", fresh, x -> x.lacks(0), UNKNOWN);
        outside("nobody is bound", fresh, x -> x.oldest(0, 0), UNKNOWN);
        outside("nobody moves", fresh, x -> x.move(0, 0), UNKNOWN);
        outside("nobody petitions", fresh, x -> x.petition(0, 0, 0, 0), UNKNOWN);
        outside("nobody seconds", fresh, x -> x.second(0, 0), UNKNOWN);
        outside("nothing to undo", fresh, HiveBylaws::undo, NONE);
        outside("nothing to restore", fresh, HiveBylaws::restore, NONE);
        outside("nothing to perform", fresh, HiveBylaws::perform, -100);
        outside("no stop", fresh, x -> x.stopped(0), NONE);
        inside("nothing would pass", fresh, HiveBylaws::wouldPass, 0);
        inside("nobody is free", fresh, HiveBylaws::free, 0);
        inside("nothing is kept", fresh, HiveBylaws::keep, 0);
        inside("days end", fresh, x -> x.pass(99), 0);
    }

    private static void promise2ReturnsTheNumber() {
        sentence("Returns the number; UNKNOWN (comb); BAD_VALUE; FULL if 12 are known.");
        for (int known = 0; known <= 11; known++) {
            inside(known + " are known", swarm(0, 10, known, 0, 1), x -> x.come(5, 9), known);
        }
        Run full = swarm(0, 10, 12, 0, 1);
        outside("12 are known", full, x -> x.come(5, 9), FULL);
        inside("one undone", then(full, x -> x.undo()), x -> x.come(5, 9), 11);
        outside("and come again", then(full, x -> x.undo(), x -> x.come(5, 9)), x -> x.come(5, 9), FULL);
        for (int far : FAR) {
            outside("comb " + far, MADE, x -> x.come(far, 1), UNKNOWN);
            outside("weight " + far, MADE, x -> x.come(0, far), BAD_VALUE);
        }
    }

    private static void promise3ReturnsThePreviousComb() {
        sentence("Returns the previous comb; UNKNOWN (drone or comb); NONE if it lives there already.");
        inside("from comb 2 to 0", MADE, x -> x.move(0, 0), 2);
        inside("from comb 3 to 5", MADE, x -> x.move(1, 5), 3);
        inside("from comb 0", then(MADE, x -> x.move(0, 0)), x -> x.move(0, 5), 0);
        inside("from comb 5", then(MADE, x -> x.move(0, 5)), x -> x.move(0, 0), 5);
        inside("the last drone", MADE, x -> x.move(2, 3), 2);
        outside("drone 3 of 3", MADE, x -> x.move(3, 0), UNKNOWN);
        outside("drone -1", MADE, x -> x.move(-1, 0), UNKNOWN);
        outside("it lives there", MADE, x -> x.move(0, 2), NONE);
        outside("it lives there since it moved", then(MADE, x -> x.move(0, 3)), x -> x.move(0, 3), NONE);
        for (int far : FAR) {
            outside("drone " + far, MADE, x -> x.move(far, 0), UNKNOWN);
            outside("comb " + far, MADE, x -> x.move(0, far), UNKNOWN);
        }
    }

    private static void promise3PetitionsStayAsTheyAre() {
        sentence("A drone moves to another comb; petitions stay as they are.");
        Run moved = then(MADE, x -> x.move(0, 5), x -> x.move(2, 4));
        int[][] rows = {{0, 2, 7, FORBID, 6, 4}, {1, HIVE, 8, ALLOW, 5, 4}};
        for (int petition = 0; petition < rows.length; petition++) {
            for (int what = 0; what <= 5; what++) {
                int number = petition;
                int which = what;
                inside("petitionOf(" + petition + ", " + what + ")", moved, x -> x.petitionOf(number, which), rows[petition][what]);
            }
        }
        inside("it has still petitioned", moved, x -> x.drone(0, 2), 0);
        outside("and can't again", moved, x -> x.petition(0, 5, 1, FORBID), NOT_POSSIBLE);
        inside("it is of the comb that it was for", then(moved, days(10)), x -> x.bylaw(0, 0), 2);
    }

    private static void promise4ReturnsItsNumberInThisSeason() {
        sentence("Returns its number in this season; UNKNOWN (drone, comb or doing); BAD_VALUE;"
                + " NOT_POSSIBLE if the drone made one in this season already");
        inside("the third", MADE, x -> x.petition(2, 2, 7, FORBID), 2);
        inside("the first of the next season", then(MADE, days(10)), x -> x.petition(2, 2, 7, FORBID), 0);
        outside("drone 3 of 3", MADE, x -> x.petition(3, 2, 7, FORBID), UNKNOWN);
        outside("drone -1", MADE, x -> x.petition(-1, 2, 7, FORBID), UNKNOWN);
        outside("made one", MADE, x -> x.petition(0, 2, 7, FORBID), NOT_POSSIBLE);
        inside("made one, undone", then(MADE, petitions(2, 2, 0, FORBID), x -> x.undo()), x -> x.petition(2, 2, 7, FORBID), 2);
        outside("made one ahead of nine days", then(MADE, days(9)), x -> x.petition(0, 2, 7, FORBID), NOT_POSSIBLE);
        for (int far : FAR) {
            outside("drone " + far, MADE, x -> x.petition(far, 2, 7, FORBID), UNKNOWN);
            outside("comb " + far, MADE, x -> x.petition(2, far, 7, FORBID), UNKNOWN);
            outside("doing " + far, MADE, x -> x.petition(2, 2, far, FORBID), UNKNOWN);
            outside("kind " + far, MADE, x -> x.petition(2, 2, 7, far), BAD_VALUE);
        }
    }

    private static void promise4ItIsForAnotherCombThanItsOwn() {
        sentence("or it is for another comb than its own, and not for the hive.");
        for (int comb = 0; comb <= 5; comb++) {
            int place = comb;
            if (comb == 2) {
                inside("comb 2", MADE, x -> x.petition(2, place, 7, FORBID), 2);
            } else {
                outside("comb " + comb, MADE, x -> x.petition(2, place, 7, FORBID), NOT_POSSIBLE);
            }
        }
        inside("the hive", MADE, x -> x.petition(2, HIVE, 7, FORBID), 2);
        Run moved = then(MADE, x -> x.move(2, 4));
        inside("its own since it moved", moved, x -> x.petition(2, 4, 7, FORBID), 2);
        outside("its own before it moved", moved, x -> x.petition(2, 2, 7, FORBID), NOT_POSSIBLE);
    }

    private static void promise5ReturnsItsSupportThen() {
        sentence("Returns its support then; UNKNOWN (drone or petition); NOT_POSSIBLE if it is the drone's own;"
                + " NONE if the drone seconds it already.");
        inside("10", MADE, x -> x.second(1, 0), 10);
        inside("the last petition", MADE, x -> x.second(0, 1), 10);
        outside("petition 2 of 2", MADE, x -> x.second(0, 2), UNKNOWN);
        outside("petition -1", MADE, x -> x.second(0, -1), UNKNOWN);
        outside("drone 3 of 3", MADE, x -> x.second(3, 0), UNKNOWN);
        outside("drone -1", MADE, x -> x.second(-1, 0), UNKNOWN);
        outside("its own", MADE, x -> x.second(1, 1), NOT_POSSIBLE);
        outside("already", MADE, x -> x.second(2, 1), NONE);
        outside("a petition of the season ahead", then(MADE, days(10)), x -> x.second(1, 0), UNKNOWN);
        for (int far : FAR) {
            outside("drone " + far, MADE, x -> x.second(far, 0), UNKNOWN);
            outside("petition " + far, MADE, x -> x.second(0, far), UNKNOWN);
        }
        Run eleven = then(swarm(0, 10, 12, 0, 9), petitions(0, 0, 0, FORBID), x -> {
            for (int i = 1; i <= 10; i++) {
                x.second(i, 0);
            }
        });
        inside("the greatest support", eleven, x -> x.second(11, 0), 108);
    }

    private static void promise6ReturnsHowManyPetitionsPassInThem() {
        sentence("Returns how many petitions pass in them; BAD_VALUE");
        inside("1 day", MADE, x -> x.pass(1), 0);
        inside("9 days", MADE, x -> x.pass(9), 0);
        inside("10 days", MADE, x -> x.pass(10), 2);
        inside("99 days", MADE, x -> x.pass(99), 2);
        inside("99 days: seasons", then(MADE, days(99)), x -> x.count(1), 9);
        outside("0 days", MADE, x -> x.pass(0), BAD_VALUE);
        outside("100 days", MADE, x -> x.pass(100), BAD_VALUE);
        outside("-1 days", MADE, x -> x.pass(-1), BAD_VALUE);
        for (int far : FAR) {
            outside(far + " days", MADE, x -> x.pass(far), BAD_VALUE);
        }
        inside("twelve pass", then(swarm(0, 1, 12, 3, 1), petitionsOfAll(12)), x -> x.pass(1), 12);
        inside("none of twelve", then(swarm(2, 1, 12, 3, 1), petitionsOfAll(12)), x -> x.pass(1), 0);
        inside("one that is refused", then(MADE, petitions(2, 2, 0, REPEAL)), x -> x.pass(10), 2);
    }

    private static void promise6FullIfTheDayWouldBeBeyond99999() {
        sentence("FULL if the day would be beyond 99999.");
        Run near = then(hive(0, 7, 2, 5, 2, 1), nearTheLastDay(), petitions(0, 2, 7, FORBID));
        inside("99990", near, x -> x.count(0), 99990);
        inside("to 99999", near, x -> x.pass(9), 1);
        inside("at 99999", then(near, days(9)), x -> x.count(0), 99999);
        outside("to 100000", near, x -> x.pass(10), FULL);
        outside("far beyond", near, x -> x.pass(99), FULL);
        Run last = then(near, days(9), x -> x.undo(), days(9), petitions(1, 2, 6, FORBID));
        outside("from 99999", last, x -> x.pass(1), FULL);
        outside("far from 99999", last, x -> x.pass(99), FULL);
        inside("other acts go on", last, x -> x.come(0, 1), 2);
        inside("undone, days end again", then(last, x -> x.undo(), x -> x.undo()), x -> x.pass(8), 1);
    }

    private static void promise7ReturnsThePreviousOne() {
        sentence("Returns the previous one; UNKNOWN; BAD_VALUE; NONE if it is so already.");
        inside("mood 0", MADE, x -> x.set(0, 0), 5);
        inside("mood 60", MADE, x -> x.set(0, 60), 5);
        inside("1 day", MADE, x -> x.set(1, 1), 10);
        inside("60 days", MADE, x -> x.set(1, 60), 10);
        inside("from mood 0", then(MADE, x -> x.set(0, 0)), x -> x.set(0, 1), 0);
        inside("from mood 60", then(MADE, x -> x.set(0, 60)), x -> x.set(0, 59), 60);
        outside("mood -1", MADE, x -> x.set(0, -1), BAD_VALUE);
        outside("mood 61", MADE, x -> x.set(0, 61), BAD_VALUE);
        outside("0 days", MADE, x -> x.set(1, 0), BAD_VALUE);
        outside("61 days", MADE, x -> x.set(1, 61), BAD_VALUE);
        outside("setting -1", MADE, x -> x.set(-1, 3), UNKNOWN);
        outside("setting 2", MADE, x -> x.set(2, 3), UNKNOWN);
        outside("mood so already", MADE, x -> x.set(0, 5), NONE);
        outside("days so already", MADE, x -> x.set(1, 10), NONE);
        outside("mood 0 already", then(MADE, x -> x.set(0, 0)), x -> x.set(0, 0), NONE);
        outside("60 days already", then(MADE, x -> x.set(1, 60)), x -> x.set(1, 60), NONE);
        for (int far : FAR) {
            outside("setting " + far, MADE, x -> x.set(far, 3), UNKNOWN);
            outside("mood " + far, MADE, x -> x.set(0, far), BAD_VALUE);
            outside(far + " days", MADE, x -> x.set(1, far), BAD_VALUE);
        }
    }

    private static void promise7ASeasonThatHasAsManyDaysAlready() {
        sentence("a season that has as many days already, or more, ends with the next day.");
        for (int value = 1; value <= 12; value++) {
            int length = value;
            if (value != 10) {
                Run eight = then(MADE, days(8), x -> x.set(1, length));
                inside(value + " behind 8 days: none ends by the setting", eight, x -> x.count(1), 0);
                inside(value + " behind 8 days: with the next day", eight, x -> x.pass(1), value <= 9 ? 2 : 0);
                inside(value + " behind 8 days: season", then(eight, days(1)), x -> x.count(1), value <= 9 ? 1 : 0);
            }
        }
    }

    private static void promise8ReturnsTheLengthOfTheTextThen() {
        sentence("Returns the length of the text then; FULL if it has 60 characters.");
        for (int length = 0; length <= 59; length++) {
            StringBuilder typed = new StringBuilder();
            for (int i = 0; i < length; i++) {
                typed.append('.');
            }
            inside("behind " + length, text(typed.toString()), x -> x.type('1'), length + 1);
        }
        StringBuilder sixty = new StringBuilder("p0:2.7+");
        for (int i = sixty.length(); i < 60; i++) {
            sixty.append((char) (i * 1000));
        }
        Run full = then(MADE, text(sixty.toString()));
        inside("60", full, x -> x.count(15), 60);
        outside("61", full, x -> x.type('1'), FULL);
        inside("behind clearText", then(full, x -> x.clearText()), x -> x.type('1'), 1);
        inside("a sign of number 0", MADE, x -> x.type((char) 0), 1);
        inside("a sign of number 65535", MADE, x -> x.type((char) 65535), 1);
        inside("it is no act", MADE, x -> {
            x.type('p');
            return x.count(14);
        }, 4);
    }

    private static void promise9ReturnsTheLengthThatItHad() {
        sentence("Empties the text. Returns the length that it had.");
        inside("0", MADE, HiveBylaws::clearText, 0);
        inside("1", then(MADE, text("p")), HiveBylaws::clearText, 1);
        inside("60", then(MADE, text("............................................................")), HiveBylaws::clearText, 60);
        inside("0 behind it", then(MADE, text("p"), x -> x.clearText()), HiveBylaws::clearText, 0);
        inside("a stopped text stays", then(MADE, text("y0:0"), x -> x.perform()), HiveBylaws::clearText, 4);
        unchanged("it changes nothing else", MADE, HiveBylaws::clearText, true);
    }

    private static void promise10ReturnsHowManyThingsTheTextHas() {
        sentence("Returns how many things the text has; -100 minus the fault of the text if it has one (which is an error);"
                + " NOT_POSSIBLE if any is stopped.");
        inside("1", then(MADE, text(".1")), HiveBylaws::perform, 1);
        inside("2", then(MADE, text("p2:2.0+;.10")), HiveBylaws::perform, 2);
        inside("20", then(MADE, text(".1;.1;.1;.1;.1;.1;.1;.1;.1;.1;.1;.1;.1;.1;.1;.1;.1;.1;.1;.1")), HiveBylaws::perform, 20);
        outside("the empty text", MADE, HiveBylaws::perform, -100);
        outside("a fault at 1", then(MADE, text(".0")), HiveBylaws::perform, -101);
        outside("a fault at 60", then(MADE, text(".1;.1;.1;.1;.1;.1;.1;.1;.1;.1;.1;.1;.1;.1;.1;.1;.1;.1;.1;.1;")),
                HiveBylaws::perform, -160);
        stopping("the first of one", then(MADE, text("p0:2.0+")), 0, NOT_POSSIBLE);
        stopping("the last of two", then(MADE, text(".10;y0:1")), 1, UNKNOWN);
        stopping("a drone that is not known", then(MADE, text("y3:0")), 0, UNKNOWN);
        inside("the text stays", then(MADE, text(".10;p2:2.0+"), x -> x.perform()), x -> x.count(15), 11);
        inside("and is performed again", then(MADE, text(".10;p2:2.0+"), x -> x.perform()), HiveBylaws::perform, 2);
    }

    private static void promise10AllOfItOrNothing() {
        sentence("all of it, or nothing. This is one act.");
        Run all = then(MADE, text("p2:2.0-;y0:2;y1:2;.9;.1;p2:6.1-"), x -> x.perform());
        inside("all: bylaws", all, x -> x.count(4), 3);
        inside("all: strength", all, x -> x.bylaw(0, 3), 10);
        inside("all: the day", all, x -> x.count(0), 10);
        inside("all: the petition behind them", all, x -> x.petitionOf(0, 1), HIVE);
        inside("one act", all, HiveBylaws::undo, 3);
        inside("one act: bylaws", then(all, x -> x.undo()), x -> x.count(4), 0);
        inside("one act: the day", then(all, x -> x.undo()), x -> x.count(0), 0);
        inside("one act: petitions", then(all, x -> x.undo()), x -> x.count(6), 2);
        stopping("nothing", then(MADE, text("p2:2.0-;y0:2;y1:2;.9;.1;p2:6.1-;y2:0")), 6, NOT_POSSIBLE);
        stopping("nothing of two seasons", then(MADE, text(".99;p2:2.0-;.99;p2:1.0-")), 3, NOT_POSSIBLE);
    }

    private static void promise10WhatWouldReturnNoneDoesNotStopIt() {
        sentence("What would return NONE does not stop it; what would return an error stops it.");
        inside("NONE", then(MADE, text("y2:0")), HiveBylaws::perform, 1);
        inside("NONE between two", then(MADE, text("y1:0;y1:0;.1")), HiveBylaws::perform, 3);
        inside("what is behind it is done", then(MADE, text("y2:0;.1"), x -> x.perform()), x -> x.count(0), 1);
        inside("it is no stop", then(MADE, text("y2:0"), x -> x.perform()), x -> x.stopped(0), NONE);
        stopping("UNKNOWN", then(MADE, text("y2:0;y2:2")), 1, UNKNOWN);
        stopping("NOT_POSSIBLE", then(MADE, text("y2:0;y0:0")), 1, NOT_POSSIBLE);
        stopping("FULL", then(hive(0, 10, 2, 5), nearTheLastDay(), text(".9;.1")), 1, FULL);
    }

    private static void promise11ReturnsTheNumberOrTheError() {
        sentence("Returns the number; BAD_VALUE; NONE if nothing was stopped yet.");
        outside("nothing yet: number", MADE, x -> x.stopped(0), NONE);
        outside("nothing yet: error", MADE, x -> x.stopped(1), NONE);
        Run stop = then(MADE, text(".1;y0:0"), x -> x.perform());
        inside("number 1", stop, x -> x.stopped(0), 1);
        inside("error", stop, x -> x.stopped(1), NOT_POSSIBLE);
        outside("what -1", stop, x -> x.stopped(-1), BAD_VALUE);
        outside("what 2", stop, x -> x.stopped(2), BAD_VALUE);
        outside("what 2, nothing yet", MADE, x -> x.stopped(2), BAD_VALUE);
        for (int far : FAR) {
            outside("what " + far, stop, x -> x.stopped(far), BAD_VALUE);
        }
        Run latest = then(stop, text("p3:2.0+"), x -> x.perform());
        inside("the latest one: number 0", latest, x -> x.stopped(0), 0);
        inside("the latest one: error", latest, x -> x.stopped(1), UNKNOWN);
        Run last = then(MADE, text(".1;.1;.1;.1;.1;.1;.1;.1;.1;.1;.1;.1;.1;.1;.1;.1;.1;.1;y0:0"), x -> x.perform());
        inside("number 18", last, x -> x.stopped(0), 18);
        Run twentieth = then(hive(0, 10, 2, 5), nearTheLastDay(), x -> x.undo(), x -> x.pass(90),
                text(".1;.1;.1;.1;.1;.1;.1;.1;.1;.1;.1;.1;.1;.1;.1;.1;.1;.1;.1;.1"), x -> x.perform());
        inside("number 18 of 20", twentieth, x -> x.stopped(0), 18);
        Run nineteen = then(hive(0, 10, 2, 5), nearTheLastDay(), x -> x.undo(), x -> x.pass(89),
                text(".1;.1;.1;.1;.1;.1;.1;.1;.1;.1;.1;.1;.1;.1;.1;.1;.1;.1;.1;.1"), x -> x.perform());
        inside("number 19 of 20", nineteen, x -> x.stopped(0), 19);
        inside("number 19 of 20: error", nineteen, x -> x.stopped(1), FULL);
    }

    private static void promise12ReturnsTheNumberOfStatesThatAreLeft() {
        sentence("Returns the number of states that are left; NONE if the history is empty.");
        outside("empty", x -> {}, HiveBylaws::undo, NONE);
        inside("one", x -> x.come(0, 1), HiveBylaws::undo, 0);
        outside("one, undone", then(x -> x.come(0, 1), x -> x.undo()), HiveBylaws::undo, NONE);
        for (int left = 3; left >= 0; left--) {
            int times = 3 - left;
            inside(left + " left", then(MADE, x -> takeBack(x, times)), HiveBylaws::undo, left);
        }
        outside("four, undone", then(MADE, x -> takeBack(x, 4)), HiveBylaws::undo, NONE);
        inside("an act behind an undo", then(MADE, x -> x.undo(), x -> x.pass(1)), HiveBylaws::undo, 3);
        inside("an act behind the last undo", then(MADE, x -> takeBack(x, 4), x -> x.come(0, 1)), HiveBylaws::undo, 0);
    }

    private static void takeBack(HiveBylaws x, int times) {
        for (int i = 0; i < times; i++) {
            x.undo();
        }
    }

    /** Bylaws about all doings at the combs 0 to 4, and of the hive: 120; with comb 5: 140. */
    private static Run bylaws(int combs) {
        return then(hive(0, 1), x -> {
            for (int i = 0; i < 12; i++) {
                x.come(i % 6, 1);
            }
            for (int season = 0; season < 10; season++) {
                for (int i = 0; i < 12; i++) {
                    if (i % 6 < combs) {
                        x.petition(i, i % 6, season + 10 * (i / 6), FORBID);
                    }
                }
                x.pass(1);
            }
        });
    }

    private static void promise13ReturnsHowManyBylawsThereAre() {
        sentence("Returns how many bylaws there are.");
        inside("none", MADE, HiveBylaws::keep, 0);
        inside("two", then(MADE, days(10)), HiveBylaws::keep, 2);
        inside("of all combs", bylaws(6), HiveBylaws::keep, 120);
        inside("counted", bylaws(6), x -> x.count(4), 120);
        inside("it is no act", then(MADE, x -> x.keep()), x -> x.count(14), 4);
        inside("kept again", then(MADE, x -> x.keep(), days(10)), HiveBylaws::keep, 2);
    }

    private static void promise14ReturnsHowManyBylawsThereAreThen() {
        sentence("Returns how many bylaws there are then; NONE if there is no snapshot.");
        outside("no snapshot", MADE, HiveBylaws::restore, NONE);
        outside("no snapshot in a new hive", x -> {}, HiveBylaws::restore, NONE);
        inside("none", then(MADE, x -> x.keep(), days(10)), HiveBylaws::restore, 0);
        inside("two", then(MADE, days(10), x -> x.keep(), petitions(0, 2, 7, REPEAL), days(10)), HiveBylaws::restore, 2);
        inside("of all combs", then(bylaws(6), x -> x.keep(), petitions(0, 0, 0, REPEAL), x -> x.second(6, 0), days(1)),
                HiveBylaws::restore, 120);
        inside("twice", then(MADE, x -> x.keep(), days(10), x -> x.restore()), HiveBylaws::restore, 0);
        outside("undo does not make one", then(MADE, x -> x.undo()), HiveBylaws::restore, NONE);
    }

    private static void promise15ADrone() {
        sentence("Returns the number; UNKNOWN; BAD_VALUE. (drone)");
        int[][] rows = {{2, 5, 0, 0, 1, 0, 0}, {3, 4, 1, 0, 1, 0, 0}, {2, 1, NONE, 3, 0, 0, 0}};
        for (int drone = 0; drone < rows.length; drone++) {
            for (int what = 0; what <= 6; what++) {
                int number = drone;
                int which = what;
                inside("drone(" + drone + ", " + what + ")", MADE, x -> x.drone(number, which), rows[drone][what]);
            }
            int number = drone;
            outside("what -1", MADE, x -> x.drone(number, -1), BAD_VALUE);
            outside("what 7", MADE, x -> x.drone(number, 7), BAD_VALUE);
        }
        outside("drone -1", MADE, x -> x.drone(-1, 0), UNKNOWN);
        outside("drone 3 of 3", MADE, x -> x.drone(3, 0), UNKNOWN);
        for (int far : FAR) {
            outside("drone " + far, MADE, x -> x.drone(far, 0), UNKNOWN);
            outside("what " + far, MADE, x -> x.drone(0, far), BAD_VALUE);
        }
    }

    private static void promise15WhatIsTold() {
        sentence("2 for the petition that it made in this season (NONE without one), 3 for petitions that it seconds,"
                + " as a set, 4 for petitions that it made so far, 5 for those of them that passed so far,"
                + " 6 for those that were refused so far");
        inside("petition 0", MADE, x -> x.drone(0, 2), 0);
        inside("without one", MADE, x -> x.drone(2, 2), NONE);
        inside("without one in the next season", then(MADE, days(10)), x -> x.drone(0, 2), NONE);
        inside("seconds two", MADE, x -> x.drone(2, 3), 3);
        inside("seconds none", MADE, x -> x.drone(0, 3), 0);
        inside("seconds none in the next season", then(MADE, days(10)), x -> x.drone(2, 3), 0);
        Run twelve = then(swarm(0, 10, 12, 3, 1), petitionsOfAll(12));
        inside("petition 11", twelve, x -> x.drone(11, 2), 11);
        inside("seconds petition 11", then(twelve, x -> x.second(0, 11)), x -> x.drone(0, 3), 2048);
        Run all = then(twelve, x -> {
            for (int i = 0; i < 12; i++) {
                x.second(5, i);
            }
        });
        inside("seconds all but its own", all, x -> x.drone(5, 3), 4095 - 32);
        Run heard = then(MADE, x -> x.set(0, 6), days(10));
        inside("made, not yet heard", MADE, x -> x.drone(0, 4), 1);
        inside("not yet passed", MADE, x -> x.drone(0, 5), 0);
        inside("made", heard, x -> x.drone(0, 4), 1);
        inside("6 of 6 passed", heard, x -> x.drone(0, 5), 1);
        inside("6 of 6 was not refused", heard, x -> x.drone(0, 6), 0);
        inside("5 of 6 did not pass", heard, x -> x.drone(1, 5), 0);
        inside("5 of 6 was refused", heard, x -> x.drone(1, 6), 1);
        Run often = then(hive(0, 1, 0, 1), x -> {
            for (int i = 0; i < 100; i++) {
                x.petition(0, 0, i / 20, i % 2);
                x.pass(1);
            }
        });
        inside("made 100", often, x -> x.drone(0, 4), 100);
        inside("passed 100", often, x -> x.drone(0, 5), 100);
    }

    private static void promise16RankFromZero() {
        sentence("Returns the number; BAD_VALUE (rank is negative, or what); NONE if there are not so many.");
        Run two = then(MADE, days(10));
        inside("rank 0", two, x -> x.bylaw(0, 0), 2);
        inside("rank 1", two, x -> x.bylaw(1, 0), HIVE);
        outside("rank 2 of 2", two, x -> x.bylaw(2, 0), NONE);
        outside("rank -1", two, x -> x.bylaw(-1, 0), BAD_VALUE);
        outside("rank 0 of none", MADE, x -> x.bylaw(0, 0), NONE);
        inside("what 5", two, x -> x.bylaw(1, 5), 10);
        outside("what 6", two, x -> x.bylaw(1, 6), BAD_VALUE);
        outside("what -1", two, x -> x.bylaw(1, -1), BAD_VALUE);
        outside("what 6, rank 2 of 2", two, x -> x.bylaw(2, 6), BAD_VALUE);
        for (int far : FAR) {
            outside("rank " + far, two, x -> x.bylaw(far, 0), far < 0 ? BAD_VALUE : NONE);
            outside("what " + far, two, x -> x.bylaw(0, far), BAD_VALUE);
        }
        inside("rank 119 of 120: comb", bylaws(6), x -> x.bylaw(119, 0), 5);
        inside("rank 119 of 120: doing", bylaws(6), x -> x.bylaw(119, 1), 19);
        inside("rank 120 of 120", bylaws(6), x -> x.bylaw(120, 0), NONE);
        inside("rank 120 of 121", then(bylaws(6), petitions(0, HIVE, 19, ALLOW), days(1)), x -> x.bylaw(120, 0), HIVE);
    }

    private static void promise16SortedByCombsThenByDoings() {
        sentence("Tells a bylaw, sorted by combs (the hive behind them), then by doings.");
        Run made = then(hive(0, 1, 0, 1, 0, 1, 5, 1, 5, 1, 0, 1, 0, 1),
                petitions(0, HIVE, 19, ALLOW, 1, HIVE, 0, ALLOW, 2, 5, 0, FORBID, 3, 5, 19, FORBID, 4, 0, 19, ALLOW, 5, 0, 0, ALLOW),
                days(1));
        int[][] rows = {{0, 0}, {0, 19}, {5, 0}, {5, 19}, {6, 0}, {6, 19}};
        for (int i = 0; i < rows.length; i++) {
            int rank = i;
            inside("comb at rank " + rank, made, x -> x.bylaw(rank, 0), rows[i][0]);
            inside("doing at rank " + rank, made, x -> x.bylaw(rank, 1), rows[i][1]);
        }
        Run gone = then(made, petitions(0, 0, 0, REPEAL), x -> x.second(1, 0), x -> x.second(4, 0), days(1));
        inside("the first is gone", gone, x -> x.bylaw(0, 1), 19);
        outside("one less", gone, x -> x.bylaw(5, 0), NONE);
    }

    private static void promise17APetition() {
        sentence("Returns the number; UNKNOWN; BAD_VALUE. (petitionOf)");
        int[][] rows = {{0, 2, 7, FORBID, 6, 4}, {1, HIVE, 8, ALLOW, 5, 4}};
        for (int petition = 0; petition < rows.length; petition++) {
            for (int what = 0; what <= 5; what++) {
                int number = petition;
                int which = what;
                inside("petitionOf(" + petition + ", " + what + ")", MADE, x -> x.petitionOf(number, which), rows[petition][what]);
            }
        }
        outside("petition -1", MADE, x -> x.petitionOf(-1, 0), UNKNOWN);
        outside("petition 2 of 2", MADE, x -> x.petitionOf(2, 0), UNKNOWN);
        outside("what -1", MADE, x -> x.petitionOf(0, -1), BAD_VALUE);
        outside("what 6", MADE, x -> x.petitionOf(0, 6), BAD_VALUE);
        outside("of the season ahead", then(MADE, days(10)), x -> x.petitionOf(0, 0), UNKNOWN);
        for (int far : FAR) {
            outside("petition " + far, MADE, x -> x.petitionOf(far, 0), UNKNOWN);
            outside("what " + far, MADE, x -> x.petitionOf(0, far), BAD_VALUE);
        }
    }

    private static void promise18TheOrderInWhichTheyWouldBeHeard() {
        sentence("Returns the petition; BAD_VALUE if rank is negative; NONE if there are not so many.");
        inside("rank 0", MADE, x -> x.heard(0), 0);
        inside("rank 1", MADE, x -> x.heard(1), 1);
        inside("now", then(MADE, x -> x.second(0, 1)), x -> x.heard(0), 1);
        outside("rank 2 of 2", MADE, x -> x.heard(2), NONE);
        outside("rank -1", MADE, x -> x.heard(-1), BAD_VALUE);
        outside("rank 0 of none", then(MADE, days(10)), x -> x.heard(0), NONE);
        for (int far : FAR) {
            outside("rank " + far, MADE, x -> x.heard(far), far < 0 ? BAD_VALUE : NONE);
        }
        Run twelve = then(swarm(0, 10, 12, 3, 1), petitionsOfAll(12));
        inside("rank 11 of 12", twelve, x -> x.heard(11), 11);
        outside("rank 12 of 12", twelve, x -> x.heard(12), NONE);
    }

    private static void promise19ByWhatADoingIsRuled() {
        sentence("Returns the number; UNKNOWN (comb or doing); BAD_VALUE. (rule)");
        Run ruled = then(MADE, days(10));
        int[] ofComb = {0, 2, 6};
        int[] ofHive = {1, HIVE, 5};
        int[] none = {1, NONE, NONE};
        for (int what = 0; what <= 2; what++) {
            int which = what;
            inside("of the comb, " + what, ruled, x -> x.rule(2, 7, which), ofComb[what]);
            inside("of the hive, " + what, ruled, x -> x.rule(2, 8, which), ofHive[what]);
            inside("of the hive at comb 0, " + what, ruled, x -> x.rule(0, 8, which), ofHive[what]);
            inside("of the hive at comb 5, " + what, ruled, x -> x.rule(5, 8, which), ofHive[what]);
            inside("without one, " + what, ruled, x -> x.rule(2, 9, which), none[what]);
        }
        outside("comb -1", ruled, x -> x.rule(-1, 7, 0), UNKNOWN);
        outside("comb 6", ruled, x -> x.rule(6, 7, 0), UNKNOWN);
        outside("doing -1", ruled, x -> x.rule(2, -1, 0), UNKNOWN);
        outside("doing 20", ruled, x -> x.rule(2, 20, 0), UNKNOWN);
        outside("what -1", ruled, x -> x.rule(2, 7, -1), BAD_VALUE);
        outside("what 3", ruled, x -> x.rule(2, 7, 3), BAD_VALUE);
        outside("what 3 without one", ruled, x -> x.rule(2, 9, 3), BAD_VALUE);
        for (int far : FAR) {
            outside("comb " + far, ruled, x -> x.rule(far, 7, 0), UNKNOWN);
            outside("doing " + far, ruled, x -> x.rule(2, far, 0), UNKNOWN);
            outside("what " + far, ruled, x -> x.rule(2, 7, far), BAD_VALUE);
        }
    }

    private static void promise20IfTheHearingWasNow() {
        sentence("Returns 0 if it would pass; otherwise the reason 1 to 5; UNKNOWN.");
        inside("it would pass", MADE, x -> x.reason(0), 0);
        inside("the last one", MADE, x -> x.reason(1), 0);
        inside("1", then(MADE, x -> x.set(0, 6)), x -> x.reason(1), 1);
        inside("6 of 6", then(MADE, x -> x.set(0, 6)), x -> x.reason(0), 0);
        inside("2", then(MADE, x -> x.set(0, 6), days(10), x -> x.set(0, 5), petitions(1, HIVE, 8, ALLOW), x -> x.second(2, 0)),
                x -> x.reason(0), 2);
        inside("3", then(MADE, days(10), x -> x.set(0, 0), petitions(1, 3, 8, FORBID)), x -> x.reason(0), 3);
        inside("4", then(MADE, petitions(2, 2, 0, REPEAL), x -> x.set(0, 0)), x -> x.reason(2), 4);
        inside("5", then(MADE, days(10), petitions(0, HIVE, 8, REPEAL)), x -> x.reason(0), 5);
        outside("petition -1", MADE, x -> x.reason(-1), UNKNOWN);
        outside("petition 2 of 2", MADE, x -> x.reason(2), UNKNOWN);
        for (int far : FAR) {
            outside("petition " + far, MADE, x -> x.reason(far), UNKNOWN);
        }
        unchanged("it is only told", MADE, x -> x.reason(0), true);
    }

    private static void promise21ThePetitionsThatWouldPass() {
        sentence("Tells the petitions that would pass, if the hearing was now.");
        inside("none is there", hive(0, 10, 2, 5), HiveBylaws::wouldPass, 0);
        inside("both", MADE, HiveBylaws::wouldPass, 3);
        inside("the one of 6", then(MADE, x -> x.set(0, 6)), HiveBylaws::wouldPass, 1);
        inside("none", then(MADE, x -> x.set(0, 7)), HiveBylaws::wouldPass, 0);
        Run twelve = then(swarm(1, 10, 12, 3, 1), petitionsOfAll(12));
        inside("all twelve", twelve, HiveBylaws::wouldPass, 4095);
        inside("the twelfth", then(twelve, x -> x.set(0, 2), x -> x.second(0, 11)), HiveBylaws::wouldPass, 2048);
        unchanged("it is only told", MADE, HiveBylaws::wouldPass, true);
    }

    private static void promise22TheLeastNumber0To120() {
        sentence("Returns the least number, 0 to 120, by which its support would have to be greater; UNKNOWN");
        Run alone = then(hive(5, 10, 2, 5, 2, 4, 2, 1), petitions(0, 2, 7, FORBID, 1, 2, 7, FORBID));
        inside("5 of 5", alone, x -> x.lacks(0), 0);
        inside("5 of 4 is no less than 0", then(alone, x -> x.set(0, 4)), x -> x.lacks(0), 0);
        inside("5 of 0", then(alone, x -> x.set(0, 0)), x -> x.lacks(0), 0);
        inside("4 of 5", alone, x -> x.lacks(1), 1);
        inside("if it was the only one that is heard", then(alone, x -> x.set(0, 4)), x -> x.lacks(1), 0);
        inside("though it would be refused", then(alone, x -> x.set(0, 4)), x -> x.reason(1), 4);
        inside("1 of 60", then(hive(60, 10, 2, 1), petitions(0, 2, 7, FORBID)), x -> x.lacks(0), 59);
        Run refused = then(hive(60, 1, 2, 5), petitions(0, 2, 7, FORBID), days(1), x -> x.set(0, 0), petitions(0, 2, 7, FORBID));
        inside("refused with as much", refused, x -> x.lacks(0), 1);
        Run forbidden = then(hive(0, 1, 2, 5, 3, 9), petitions(1, HIVE, 7, ALLOW), days(1), petitions(0, 2, 7, FORBID));
        inside("as much as the hive's", forbidden, x -> x.lacks(0), 4);
        Run there = then(hive(0, 1, 2, 5, 2, 9), petitions(1, 2, 7, FORBID), days(1), petitions(0, 2, 7, FORBID));
        inside("more than the one there", there, x -> x.lacks(0), 5);
        for (int other = 4; other <= 7; other++) {
            Run repeal = then(hive(0, 1, 2, 5, 2, other), petitions(0, 2, 7, FORBID), days(1), petitions(0, 2, 7, REPEAL));
            inside("a repeal: 5 of " + (5 + other), repeal, x -> x.lacks(0), other <= 4 ? 0 : other <= 6 ? 1 : 2);
        }
        // The greatest that a drone can lack: all twelve were refused with 100, and it asks alone.
        Run most = then(hive(60, 1, 0, 1), swarm(60, 1, 11, 0, 9), petitions(0, HIVE, 0, REPEAL), allSecond(0), days(1),
                petitions(0, HIVE, 0, REPEAL));
        inside("nothing to repeal at all", most, x -> x.lacks(0), NONE);
        Run greatest = then(hive(0, 1, 0, 1), swarm(0, 1, 11, 0, 9), petitions(0, HIVE, 0, ALLOW), allSecond(0), days(1),
                petitions(0, HIVE, 0, ALLOW));
        inside("100", greatest, x -> x.lacks(0), 100);
        outside("petition -1", alone, x -> x.lacks(-1), UNKNOWN);
        outside("petition 2 of 2", alone, x -> x.lacks(2), UNKNOWN);
        for (int far : FAR) {
            outside("petition " + far, alone, x -> x.lacks(far), UNKNOWN);
        }
        unchanged("it is only told", alone, x -> x.lacks(1), true);
    }

    private static void promise22NoneIfNoSupportServes() {
        sentence("NONE if no support serves.");
        Run there = then(hive(0, 1, 2, 5, 2, 9), petitions(1, 2, 7, FORBID), days(1));
        outside("nothing to repeal", then(there, petitions(0, 2, 8, REPEAL)), x -> x.lacks(0), NONE);
        inside("something to repeal", then(there, petitions(0, 2, 7, REPEAL)), x -> x.lacks(0), 3);
        outside("what is made ahead does not count", then(there, petitions(1, 2, 8, FORBID, 0, 2, 8, REPEAL)),
                x -> x.lacks(1), NONE);
        inside("what is repealed ahead does not count", then(there, petitions(1, 2, 7, REPEAL, 0, 2, 7, REPEAL)),
                x -> x.lacks(1), 3);
        outside("nor do the other reasons serve", then(there, petitions(0, 2, 8, REPEAL), x -> x.set(0, 60)), x -> x.lacks(0), NONE);
    }

    private static void promise23TheDronesWhoCanStillPetition() {
        sentence("Tells the drones who can still petition in this season.");
        inside("nobody is there", x -> {}, HiveBylaws::free, 0);
        inside("one", x -> x.come(0, 1), HiveBylaws::free, 1);
        inside("the third", MADE, HiveBylaws::free, 4);
        inside("nobody", then(MADE, petitions(2, 2, 0, FORBID)), HiveBylaws::free, 0);
        inside("on the last day", then(MADE, days(9)), HiveBylaws::free, 4);
        inside("all in the next season", then(MADE, days(10)), HiveBylaws::free, 7);
        inside("twelve", swarm(0, 10, 12, 3, 1), HiveBylaws::free, 4095);
        inside("the twelfth of twelve", then(swarm(0, 10, 12, 3, 1), petitionsOfAll(11)), HiveBylaws::free, 2048);
        inside("nobody of twelve", then(swarm(0, 10, 12, 3, 1), petitionsOfAll(12)), HiveBylaws::free, 0);
        inside("at the end of days", then(hive(0, 60, 0, 1), nearTheLastDay(), days(9)), HiveBylaws::free, 1);
    }

    private static void promise24TheOldestBylawThatBindsADrone() {
        sentence("Returns the number; UNKNOWN; BAD_VALUE; NONE if there is none.");
        Run ruled = then(MADE, days(10), petitions(0, 2, 0, FORBID), days(10));
        inside("rank", ruled, x -> x.oldest(0, 0), 1);
        inside("season", ruled, x -> x.oldest(0, 1), 0);
        inside("of the hive alone", ruled, x -> x.oldest(1, 0), 2);
        outside("none", MADE, x -> x.oldest(0, 0), NONE);
        outside("none, season", MADE, x -> x.oldest(2, 1), NONE);
        outside("drone -1", ruled, x -> x.oldest(-1, 0), UNKNOWN);
        outside("drone 3 of 3", ruled, x -> x.oldest(3, 0), UNKNOWN);
        outside("what -1", ruled, x -> x.oldest(0, -1), BAD_VALUE);
        outside("what 2", ruled, x -> x.oldest(0, 2), BAD_VALUE);
        outside("what 2, none", MADE, x -> x.oldest(0, 2), BAD_VALUE);
        for (int far : FAR) {
            outside("drone " + far, ruled, x -> x.oldest(far, 0), UNKNOWN);
            outside("what " + far, ruled, x -> x.oldest(0, far), BAD_VALUE);
        }
        Run first = then(hive(0, 1, 0, 5), petitions(0, 0, 0, FORBID), days(1));
        inside("of the first comb and doing", first, x -> x.oldest(0, 0), 0);
        Run last = then(hive(0, 1, 0, 5), petitions(0, HIVE, 19, FORBID), days(1));
        inside("of the hive and the last doing", last, x -> x.oldest(0, 0), 0);
        // A comb's bylaw that the hive's overrules binds nobody.
        for (int ofHive = 4; ofHive <= 6; ofHive++) {
            Run both = then(hive(0, 1, 2, 5, 3, ofHive), petitions(0, 2, 7, FORBID), days(1), petitions(1, HIVE, 7, ALLOW), days(1));
            inside("5 and " + ofHive + " of the hive: rank", both, x -> x.oldest(0, 0), ofHive > 5 ? 1 : 0);
            inside("5 and " + ofHive + " of the hive: season", both, x -> x.oldest(0, 1), ofHive > 5 ? 1 : 0);
            inside("5 and " + ofHive + " of the hive: at another comb", both, x -> x.oldest(1, 0), 1);
        }
    }

    private static void promise24OfSeveralTheFirstOne() {
        sentence("of those that rule a doing at its comb the one with the least season,"
                + " of several the first one as bylaws are sorted.");
        Run like = then(hive(0, 1, 2, 5, 2, 4, 3, 1), petitions(0, 2, 19, FORBID, 1, HIVE, 0, FORBID), days(1));
        inside("of one season the comb's", like, x -> x.oldest(0, 0), 0);
        inside("of one season the hive's is alone", like, x -> x.oldest(2, 0), 1);
        Run three = then(like, petitions(0, 2, 0, ALLOW), days(1));
        inside("one season less", three, x -> x.oldest(0, 0), 1);
        inside("one season less: season", three, x -> x.oldest(0, 1), 0);
        Run doings = then(hive(0, 1, 2, 5, 2, 4), petitions(0, 2, 8, FORBID, 1, 2, 7, FORBID), days(1));
        inside("of one season the lower doing", doings, x -> x.oldest(0, 0), 0);
        Run newer = then(doings, petitions(0, 2, 7, ALLOW), days(1));
        inside("of two seasons the lesser one", newer, x -> x.oldest(0, 0), 1);
    }

    private static void promise25Count() {
        sentence("Returns the number; BAD_VALUE. (count)");
        Run ruled = then(MADE, petitions(2, 2, 0, REPEAL), days(19), petitions(0, 2, 7, REPEAL), text("p0"));
        int[] counts = {19, 1, 9, 3, 2, 1, 1, 4, 2, 1, 0, 1, 5, 10, 4, 2};
        for (int what = 0; what < counts.length; what++) {
            int which = what;
            inside("count(" + what + ")", ruled, x -> x.count(which), counts[what]);
        }
        inside("repeals", then(ruled, days(1)), x -> x.count(10), 1);
        inside("a refused repeal is none", then(ruled, x -> x.set(0, 6), days(1)), x -> x.count(10), 0);
        outside("what -1", ruled, x -> x.count(-1), BAD_VALUE);
        outside("what 16", ruled, x -> x.count(16), BAD_VALUE);
        for (int far : FAR) {
            outside("what " + far, ruled, x -> x.count(far), BAD_VALUE);
        }
        inside("all are forbidden at combs", bylaws(6), x -> x.count(11), 120);
        inside("all bylaws forbid", bylaws(6), x -> x.count(5), 120);
        inside("the hive forbids at six combs", then(hive(0, 1, 2, 5), petitions(0, HIVE, 0, FORBID), days(1)), x -> x.count(11), 6);
    }

    private static void promise25AccountsAddUp() {
        sentence("7 for petitions so far, 8 for those that passed so far, 9 for those that were refused so far");
        HiveBylaws x = after(swarm(3, 2, 12, 1, 2));
        for (int season = 0; season < 12; season++) {
            for (int drone = 0; drone < 12; drone += 1 + season % 3) {
                x.petition(drone, drone % 2 == 0 ? 1 : HIVE, (drone + season) % 5, (drone + season) % 3);
                x.second((drone + 1) % 12, drone % 7);
            }
            int passed = x.count(8);
            int petitions = x.count(6);
            due("what is heard now is neither", x.count(8) + x.count(9) + petitions, x.count(7));
            int passing = x.pass(2);
            due("what passes", x.count(8), passed + passing);
            due("season " + season, x.count(8) + x.count(9), x.count(7));
        }
        for (int what = 4; what <= 6; what++) {
            int sum = 0;
            for (int drone = 0; drone < 12; drone++) {
                sum += x.drone(drone, what);
            }
            due("those of all drones", sum, x.count(what + 3));
        }
        holds("some passed, some did not", x.count(8) > 0 && x.count(9) > 0);
    }
}
