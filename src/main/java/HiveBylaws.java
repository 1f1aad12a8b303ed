/**
 * Bylaws of a beehive in which drones may petition once a season. What each call promises stands in
 * ../shared/DOC.md; the code keeps to ../shared/LANGUAGE.md.
 *
 * <p>All rows are made by the constructor and used again, so that no call makes an object.
 */
public final class HiveBylaws {
    /** There is no such drone, comb, doing, petition or setting. */
    public static final int UNKNOWN = -1;

    /** Another argument is out of range. */
    public static final int BAD_VALUE = -2;

    /** There is no more room. */
    public static final int FULL = -3;

    /** This is not possible. */
    public static final int NOT_POSSIBLE = -4;

    /** There is no such thing; not an error. */
    public static final int NONE = -5;

    private static final int COMBS = 6;
    private static final int HIVE = 6;
    private static final int PLACES = 7;
    private static final int DOINGS = 20;
    private static final int SPOTS = PLACES * DOINGS;

    private static final int MOST_DRONES = 12;
    private static final int MOST_WEIGHT = 9;

    /** A drone never leaves and petitions once a season, so a season has no more than one for each. */
    private static final int MOST_PETITIONS = MOST_DRONES;

    private static final int FORBIDDEN = 0;
    private static final int ALLOWED = 1;
    private static final int REPEAL = 2;

    private static final int MOOD = 0;
    private static final int SEASON_LENGTH = 1;
    private static final int MOST_OF_SETTING = 60;

    private static final int MOST_DAYS = 99;
    private static final int LAST_DAY = 99999;
    private static final int MOST_LACKED = 120;

    private static final int MOST_STATES = 4;
    private static final int MOST_CHARACTERS = 60;

    /** The shortest thing has two characters, and a ";" stands between two of them. */
    private static final int MOST_THINGS = 20;

    private static final int NO_FAULT = -1;
    private static final int ANSWER_OF_FAULT = -100;

    private static final int TO_PETITION = 0;
    private static final int TO_SECOND = 1;
    private static final int TO_PASS = 2;

    private final State state;

    /** The state ahead of the act that is under way. */
    private final State before;

    /** A copy on which a hearing is tried out. */
    private final State trial;

    private final State snapshot;
    private boolean hasSnapshot;

    private final History history;
    private final PetitionText text;

    private int stopNumber;

    /** The error of the latest stop, which is negative, or 0 if nothing was stopped yet. */
    private int stopError;

    /** Creates a hive without drones and bylaws. */
    public HiveBylaws() {
        state = new State();
        before = new State();
        trial = new State();
        snapshot = new State();
        history = new History();
        text = new PetitionText();
    }

    // ---- drones, petitions, days

    public int come(int comb, int weight) {
        before.copyFrom(state);
        return recorded(state.addDrone(comb, weight));
    }

    public int move(int drone, int comb) {
        before.copyFrom(state);
        return recorded(state.moveDrone(drone, comb));
    }

    public int petition(int drone, int comb, int doing, int kind) {
        before.copyFrom(state);
        return recorded(state.addPetition(drone, comb, doing, kind));
    }

    public int second(int drone, int petition) {
        before.copyFrom(state);
        return recorded(state.addSeconder(drone, petition));
    }

    public int pass(int days) {
        before.copyFrom(state);
        return recorded(state.endDays(days));
    }

    public int set(int which, int value) {
        before.copyFrom(state);
        return recorded(state.changeSetting(which, value));
    }

    // ---- texts

    public int type(char character) {
        return text.append(character);
    }

    public int clearText() {
        return text.empty();
    }

    public int perform() {
        int fault = text.read();
        if (fault != NO_FAULT) {
            return ANSWER_OF_FAULT - fault;
        }
        before.copyFrom(state);
        for (int thing = 0; thing < text.things; thing++) {
            int answer = doThing(thing);
            if (answer < 0 && answer != NONE) {
                state.copyFrom(before);
                stopNumber = thing;
                stopError = answer;
                return NOT_POSSIBLE;
            }
        }
        return recorded(text.things);
    }

    public int stopped(int what) {
        if (what < 0 || what > 1) {
            return BAD_VALUE;
        }
        if (stopError == 0) {
            return NONE;
        }
        return what == 0 ? stopNumber : stopError;
    }

    // ---- history

    public int undo() {
        return history.takeBack(state);
    }

    public int keep() {
        snapshot.copyFrom(state);
        hasSnapshot = true;
        return state.laws.size();
    }

    public int restore() {
        if (!hasSnapshot) {
            return NONE;
        }
        before.copyFrom(state);
        state.copyFrom(snapshot);
        return recorded(state.laws.size());
    }

    // ---- what is told

    public int drone(int drone, int what) {
        Swarm swarm = state.swarm;
        if (!swarm.knows(drone)) {
            return UNKNOWN;
        }
        switch (what) {
            case 0:
                return swarm.comb[drone];
            case 1:
                return swarm.weight[drone];
            case 2:
                return state.petitions.madeBy(drone);
            case 3:
                return state.petitions.secondedBy(drone);
            case 4:
                return swarm.made[drone];
            case 5:
                return swarm.passed[drone];
            case 6:
                return swarm.refused[drone];
            default:
                return BAD_VALUE;
        }
    }

    public int bylaw(int rank, int what) {
        if (rank < 0 || what < 0 || what > 5) {
            return BAD_VALUE;
        }
        Laws laws = state.laws;
        int spot = laws.spotAt(rank);
        if (spot == NONE) {
            return NONE;
        }
        switch (what) {
            case 0:
                return spot / DOINGS;
            case 1:
                return spot % DOINGS;
            case 2:
                return laws.stance[spot];
            case 3:
                return laws.strength[spot];
            case 4:
                return laws.season[spot];
            default:
                return state.swarm.weightAt(spot / DOINGS);
        }
    }

    public int petitionOf(int petition, int what) {
        Petitions petitions = state.petitions;
        if (!petitions.has(petition)) {
            return UNKNOWN;
        }
        switch (what) {
            case 0:
                return petitions.drone[petition];
            case 1:
                return petitions.place[petition];
            case 2:
                return petitions.doing[petition];
            case 3:
                return petitions.kind[petition];
            case 4:
                return petitions.support[petition];
            case 5:
                return petitions.seconders[petition];
            default:
                return BAD_VALUE;
        }
    }

    public int heard(int rank) {
        return rank < 0 ? BAD_VALUE : state.petitions.atRank(rank);
    }

    public int rule(int comb, int doing, int what) {
        if (!isComb(comb) || !isDoing(doing)) {
            return UNKNOWN;
        }
        if (what < 0 || what > 2) {
            return BAD_VALUE;
        }
        int place = state.laws.rulingPlace(comb, doing);
        if (what == 0) {
            return state.laws.isForbidden(comb, doing) ? 0 : 1;
        }
        if (what == 1 || place == NONE) {
            return place;
        }
        return state.laws.strengthOf(place, doing);
    }

    public int reason(int petition) {
        if (!state.petitions.has(petition)) {
            return UNKNOWN;
        }
        trial.copyFrom(state);
        trial.hearPetitions();
        return trial.verdict[petition];
    }

    public int wouldPass() {
        trial.copyFrom(state);
        trial.hearPetitions();
        int passing = 0;
        for (int petition = 0; petition < state.petitions.size; petition++) {
            if (trial.verdict[petition] == 0) {
                passing |= 1 << petition;
            }
        }
        return passing;
    }

    public int lacks(int petition) {
        if (!state.petitions.has(petition)) {
            return UNKNOWN;
        }
        int support = state.petitions.support[petition];
        for (int more = 0; more <= MOST_LACKED; more++) {
            if (state.reasonToRefuse(petition, support + more) == 0) {
                return more;
            }
        }
        return NONE;
    }

    public int free() {
        int all = (1 << state.swarm.size) - 1;
        return all & ~state.petitions.makers();
    }

    public int oldest(int drone, int what) {
        if (!state.swarm.knows(drone)) {
            return UNKNOWN;
        }
        if (what < 0 || what > 1) {
            return BAD_VALUE;
        }
        int spot = state.laws.oldestSpot(state.swarm.comb[drone]);
        if (spot == NONE) {
            return NONE;
        }
        return what == 0 ? state.laws.rankOf(spot) : state.laws.season[spot];
    }

    public int count(int what) {
        switch (what) {
            case 0:
                return state.day;
            case 1:
                return state.season;
            case 2:
                return state.daysOfSeason;
            case 3:
                return state.swarm.size;
            case 4:
                return state.laws.size();
            case 5:
                return state.laws.forbidding();
            case 6:
                return state.petitions.size;
            case 7:
                return sum(state.swarm.made);
            case 8:
                return sum(state.swarm.passed);
            case 9:
                return sum(state.swarm.refused);
            case 10:
                return state.repeals;
            case 11:
                return state.laws.forbiddenDoings();
            case 12:
                return state.setting[MOOD];
            case 13:
                return state.setting[SEASON_LENGTH];
            case 14:
                return history.size;
            case 15:
                return text.length;
            default:
                return BAD_VALUE;
        }
    }

    // ---- helpers

    private static boolean isComb(int comb) {
        return comb >= 0 && comb < COMBS;
    }

    private static boolean isPlace(int place) {
        return place >= 0 && place < PLACES;
    }

    private static boolean isDoing(int doing) {
        return doing >= 0 && doing < DOINGS;
    }

    private static int sum(int[] amounts) {
        int sum = 0;
        for (int amount : amounts) {
            sum += amount;
        }
        return sum;
    }

    /** Every act answers 0 or more where it changed something, and less where it did not. */
    private int recorded(int answer) {
        if (answer >= 0) {
            history.remember(before);
        }
        return answer;
    }

    private int doThing(int thing) {
        switch (text.act[thing]) {
            case TO_PETITION:
                return state.addPetition(
                        text.drone[thing], text.number[thing], text.doing[thing], text.kind[thing]);
            case TO_SECOND:
                return state.addSeconder(text.drone[thing], text.number[thing]);
            default:
                return state.endDays(text.number[thing]);
        }
    }

    /** All that undo and the snapshot bring back. */
    private static final class State {
        final Swarm swarm;
        final Laws laws;
        final Petitions petitions;
        final Refusals refusals;
        final int[] setting;
        int day;
        int season;
        int daysOfSeason;
        int repeals;

        /** The reasons of the latest hearing, by petition; it is read right behind it, so it is never copied. */
        final int[] verdict;

        State() {
            swarm = new Swarm();
            laws = new Laws();
            petitions = new Petitions();
            refusals = new Refusals();
            setting = new int[] {5, 10};
            verdict = new int[MOST_PETITIONS];
        }

        void copyFrom(State other) {
            swarm.copyFrom(other.swarm);
            laws.copyFrom(other.laws);
            petitions.copyFrom(other.petitions);
            refusals.copyFrom(other.refusals);
            setting[MOOD] = other.setting[MOOD];
            setting[SEASON_LENGTH] = other.setting[SEASON_LENGTH];
            day = other.day;
            season = other.season;
            daysOfSeason = other.daysOfSeason;
            repeals = other.repeals;
        }

        int addDrone(int comb, int weight) {
            if (!isComb(comb)) {
                return UNKNOWN;
            }
            if (weight < 1 || weight > MOST_WEIGHT) {
                return BAD_VALUE;
            }
            if (swarm.size >= MOST_DRONES) {
                return FULL;
            }
            return swarm.add(comb, weight);
        }

        int moveDrone(int drone, int comb) {
            if (!swarm.knows(drone) || !isComb(comb)) {
                return UNKNOWN;
            }
            int previous = swarm.comb[drone];
            if (previous == comb) {
                return NONE;
            }
            swarm.comb[drone] = comb;
            return previous;
        }

        int addPetition(int drone, int place, int doing, int kind) {
            if (!swarm.knows(drone) || !isPlace(place) || !isDoing(doing)) {
                return UNKNOWN;
            }
            if (kind < FORBIDDEN || kind > REPEAL) {
                return BAD_VALUE;
            }
            boolean isElsewhere = place != HIVE && place != swarm.comb[drone];
            if (isElsewhere || petitions.madeBy(drone) != NONE || petitions.size >= MOST_PETITIONS) {
                return NOT_POSSIBLE;
            }
            swarm.made[drone]++;
            return petitions.add(drone, place, doing, kind, swarm.weight[drone]);
        }

        int addSeconder(int drone, int petition) {
            if (!swarm.knows(drone) || !petitions.has(petition)) {
                return UNKNOWN;
            }
            if (petitions.drone[petition] == drone) {
                return NOT_POSSIBLE;
            }
            int bit = 1 << drone;
            if ((petitions.seconders[petition] & bit) != 0) {
                return NONE;
            }
            petitions.seconders[petition] |= bit;
            petitions.support[petition] += swarm.weight[drone];
            return petitions.support[petition];
        }

        int endDays(int days) {
            if (days < 1 || days > MOST_DAYS) {
                return BAD_VALUE;
            }
            if (day + days > LAST_DAY) {
                return FULL;
            }
            int passing = 0;
            for (int ended = 0; ended < days; ended++) {
                day++;
                daysOfSeason++;
                if (daysOfSeason >= setting[SEASON_LENGTH]) {
                    passing += endSeason();
                }
            }
            return passing;
        }

        int changeSetting(int which, int value) {
            if (which != MOOD && which != SEASON_LENGTH) {
                return UNKNOWN;
            }
            int least = which == MOOD ? 0 : 1;
            if (value < least || value > MOST_OF_SETTING) {
                return BAD_VALUE;
            }
            int previous = setting[which];
            if (previous == value) {
                return NONE;
            }
            setting[which] = value;
            return previous;
        }

        private int endSeason() {
            int passing = hearPetitions();
            refusals.size = 0;
            for (int petition = 0; petition < petitions.size; petition++) {
                int drone = petitions.drone[petition];
                if (verdict[petition] == 0) {
                    swarm.passed[drone]++;
                } else {
                    swarm.refused[drone]++;
                    refusals.add(petitions, petition);
                }
            }
            petitions.size = 0;
            season++;
            daysOfSeason = 0;
            return passing;
        }

        /** Hears all petitions; the bylaws are then as they leave them, and verdict tells the reasons. */
        int hearPetitions() {
            int passing = 0;
            for (int rank = 0; rank < petitions.size; rank++) {
                int petition = petitions.atRank(rank);
                if (petition != NONE) {
                    int reason = reasonToRefuse(petition, petitions.support[petition]);
                    verdict[petition] = reason;
                    if (reason == 0) {
                        grant(petition);
                        passing++;
                    }
                }
            }
            return passing;
        }

        /** The reason by which a petition would be refused with this support as things stand, or 0. */
        int reasonToRefuse(int petition, int support) {
            int place = petitions.place[petition];
            int doing = petitions.doing[petition];
            int kind = petitions.kind[petition];
            if (support < setting[MOOD]) {
                return 1;
            }
            if (support <= refusals.greatestSupport(place, doing, kind)) {
                return 2;
            }
            int strengthThere = laws.strengthOf(place, doing);
            if (kind == REPEAL) {
                if (strengthThere == 0) {
                    return 4;
                }
                return 2 * support > swarm.weightAt(place) ? 0 : 5;
            }
            boolean hiveSaysOtherwise = laws.stanceOf(HIVE, doing) != kind;
            if (place != HIVE && hiveSaysOtherwise && laws.strengthOf(HIVE, doing) > support) {
                return 3;
            }
            return laws.stanceOf(place, doing) == kind && strengthThere >= support ? 4 : 0;
        }

        private void grant(int petition) {
            int spot = petitions.place[petition] * DOINGS + petitions.doing[petition];
            if (petitions.kind[petition] == REPEAL) {
                laws.strength[spot] = 0;
                repeals++;
            } else {
                laws.stance[spot] = petitions.kind[petition];
                laws.strength[spot] = petitions.support[petition];
                laws.season[spot] = season;
            }
        }
    }

    /** The drones that have come. */
    private static final class Swarm {
        int size;
        final int[] comb;
        final int[] weight;
        final int[] made;
        final int[] passed;
        final int[] refused;

        Swarm() {
            comb = new int[MOST_DRONES];
            weight = new int[MOST_DRONES];
            made = new int[MOST_DRONES];
            passed = new int[MOST_DRONES];
            refused = new int[MOST_DRONES];
        }

        void copyFrom(Swarm other) {
            size = other.size;
            System.arraycopy(other.comb, 0, comb, 0, MOST_DRONES);
            System.arraycopy(other.weight, 0, weight, 0, MOST_DRONES);
            System.arraycopy(other.made, 0, made, 0, MOST_DRONES);
            System.arraycopy(other.passed, 0, passed, 0, MOST_DRONES);
            System.arraycopy(other.refused, 0, refused, 0, MOST_DRONES);
        }

        boolean knows(int drone) {
            return drone >= 0 && drone < size;
        }

        /** Adds a drone where there is room for it. */
        int add(int livesAt, int weighs) {
            comb[size] = livesAt;
            weight[size] = weighs;
            size++;
            return size - 1;
        }

        /** The weight of all drones whom a bylaw of this place concerns. */
        int weightAt(int place) {
            int sum = 0;
            for (int drone = 0; drone < size; drone++) {
                if (place == HIVE || comb[drone] == place) {
                    sum += weight[drone];
                }
            }
            return sum;
        }
    }

    /** The bylaws: a spot for each place (a comb, or the hive) and doing, in the order in which they are told. */
    private static final class Laws {
        final int[] stance;

        /** 0 where there is no bylaw: a bylaw has at least the weight of one drone. */
        final int[] strength;

        final int[] season;

        Laws() {
            stance = new int[SPOTS];
            strength = new int[SPOTS];
            season = new int[SPOTS];
        }

        void copyFrom(Laws other) {
            System.arraycopy(other.stance, 0, stance, 0, SPOTS);
            System.arraycopy(other.strength, 0, strength, 0, SPOTS);
            System.arraycopy(other.season, 0, season, 0, SPOTS);
        }

        int stanceOf(int place, int doing) {
            return stance[place * DOINGS + doing];
        }

        int strengthOf(int place, int doing) {
            return strength[place * DOINGS + doing];
        }

        int size() {
            return rankOf(SPOTS);
        }

        /** How many bylaws stand ahead of this spot. */
        int rankOf(int spot) {
            int ahead = 0;
            for (int other = 0; other < spot && other < SPOTS; other++) {
                if (strength[other] > 0) {
                    ahead++;
                }
            }
            return ahead;
        }

        /** The spot of the bylaw of this rank, or NONE. */
        int spotAt(int rank) {
            int ahead = 0;
            for (int spot = 0; spot < SPOTS; spot++) {
                if (strength[spot] > 0) {
                    if (ahead == rank) {
                        return spot;
                    }
                    ahead++;
                }
            }
            return NONE;
        }

        /** The place of the bylaw that rules a doing at a comb, or NONE. */
        int rulingPlace(int comb, int doing) {
            int ofComb = strengthOf(comb, doing);
            int ofHive = strengthOf(HIVE, doing);
            if (ofComb == 0 && ofHive == 0) {
                return NONE;
            }
            return ofComb >= ofHive ? comb : HIVE;
        }

        boolean isForbidden(int comb, int doing) {
            int place = rulingPlace(comb, doing);
            return place != NONE && stanceOf(place, doing) == FORBIDDEN;
        }

        int forbidding() {
            int found = 0;
            for (int spot = 0; spot < SPOTS; spot++) {
                if (strength[spot] > 0 && stance[spot] == FORBIDDEN) {
                    found++;
                }
            }
            return found;
        }

        int forbiddenDoings() {
            int found = 0;
            for (int comb = 0; comb < COMBS; comb++) {
                for (int doing = 0; doing < DOINGS; doing++) {
                    if (isForbidden(comb, doing)) {
                        found++;
                    }
                }
            }
            return found;
        }

        /** The spot of the oldest bylaw that rules a doing at a comb, or NONE. */
        int oldestSpot(int comb) {
            int oldest = NONE;
            for (int spot = 0; spot < SPOTS; spot++) {
                boolean rules = rulingPlace(comb, spot % DOINGS) == spot / DOINGS;
                if (rules && (oldest == NONE || season[spot] < season[oldest])) {
                    oldest = spot;
                }
            }
            return oldest;
        }
    }

    /** The petitions of this season. */
    private static final class Petitions {
        int size;
        final int[] drone;
        final int[] place;
        final int[] doing;
        final int[] kind;
        final int[] support;
        final int[] seconders;

        Petitions() {
            drone = new int[MOST_PETITIONS];
            place = new int[MOST_PETITIONS];
            doing = new int[MOST_PETITIONS];
            kind = new int[MOST_PETITIONS];
            support = new int[MOST_PETITIONS];
            seconders = new int[MOST_PETITIONS];
        }

        void copyFrom(Petitions other) {
            size = other.size;
            System.arraycopy(other.drone, 0, drone, 0, MOST_PETITIONS);
            System.arraycopy(other.place, 0, place, 0, MOST_PETITIONS);
            System.arraycopy(other.doing, 0, doing, 0, MOST_PETITIONS);
            System.arraycopy(other.kind, 0, kind, 0, MOST_PETITIONS);
            System.arraycopy(other.support, 0, support, 0, MOST_PETITIONS);
            System.arraycopy(other.seconders, 0, seconders, 0, MOST_PETITIONS);
        }

        boolean has(int petition) {
            return petition >= 0 && petition < size;
        }

        /** Adds a petition where there is room for it. */
        int add(int maker, int about, int what, int wish, int weightOfMaker) {
            drone[size] = maker;
            place[size] = about;
            doing[size] = what;
            kind[size] = wish;
            support[size] = weightOfMaker;
            seconders[size] = 0;
            size++;
            return size - 1;
        }

        int madeBy(int maker) {
            for (int petition = 0; petition < size; petition++) {
                if (drone[petition] == maker) {
                    return petition;
                }
            }
            return NONE;
        }

        /** The drones who made one, as a set. */
        int makers() {
            int found = 0;
            for (int petition = 0; petition < size; petition++) {
                found |= 1 << drone[petition];
            }
            return found;
        }

        /** The petitions that a drone seconds, as a set. */
        int secondedBy(int seconder) {
            int found = 0;
            for (int petition = 0; petition < size; petition++) {
                if ((seconders[petition] >> seconder & 1) != 0) {
                    found |= 1 << petition;
                }
            }
            return found;
        }

        /** The petition that is heard at this rank, or NONE. */
        int atRank(int rank) {
            for (int petition = 0; petition < size; petition++) {
                if (rankOf(petition) == rank) {
                    return petition;
                }
            }
            return NONE;
        }

        private int rankOf(int petition) {
            int ahead = 0;
            for (int other = 0; other < size; other++) {
                boolean hasMore = support[other] > support[petition];
                boolean isLikeAndLower = support[other] == support[petition] && other < petition;
                if (hasMore || isLikeAndLower) {
                    ahead++;
                }
            }
            return ahead;
        }
    }

    /** What the queen refused at the hearing that ended the season ahead. */
    private static final class Refusals {
        int size;
        final int[] place;
        final int[] doing;
        final int[] kind;
        final int[] support;

        Refusals() {
            place = new int[MOST_PETITIONS];
            doing = new int[MOST_PETITIONS];
            kind = new int[MOST_PETITIONS];
            support = new int[MOST_PETITIONS];
        }

        void copyFrom(Refusals other) {
            size = other.size;
            System.arraycopy(other.place, 0, place, 0, MOST_PETITIONS);
            System.arraycopy(other.doing, 0, doing, 0, MOST_PETITIONS);
            System.arraycopy(other.kind, 0, kind, 0, MOST_PETITIONS);
            System.arraycopy(other.support, 0, support, 0, MOST_PETITIONS);
        }

        void add(Petitions petitions, int petition) {
            if (size < MOST_PETITIONS) {
                place[size] = petitions.place[petition];
                doing[size] = petitions.doing[petition];
                kind[size] = petitions.kind[petition];
                support[size] = petitions.support[petition];
                size++;
            }
        }

        /** The greatest support of those that were alike, or 0, which every support is above. */
        int greatestSupport(int about, int what, int wish) {
            int greatest = 0;
            for (int i = 0; i < size; i++) {
                boolean isAlike = place[i] == about && doing[i] == what && kind[i] == wish;
                if (isAlike && support[i] > greatest) {
                    greatest = support[i];
                }
            }
            return greatest;
        }
    }

    /** The latest states, in a ring, so that the oldest one gives its place to a new one. */
    private static final class History {
        final State[] ring;
        int first;
        int size;

        History() {
            ring = new State[MOST_STATES];
            for (int i = 0; i < MOST_STATES; i++) {
                ring[i] = new State();
            }
        }

        void remember(State latest) {
            if (size == MOST_STATES) {
                first = (first + 1) % MOST_STATES;
                size--;
            }
            ring[(first + size) % MOST_STATES].copyFrom(latest);
            size++;
        }

        /** Brings the latest state back into this one, and tells how many are left, or NONE. */
        int takeBack(State into) {
            if (size == 0) {
                return NONE;
            }
            size--;
            into.copyFrom(ring[(first + size) % MOST_STATES]);
            return size;
        }
    }

    /** The text, and the things that it was read as. */
    private static final class PetitionText {
        final char[] characters;
        int length;

        /** Where the reading stands; where it can't go on, this is the fault. */
        private int at;

        int things;
        final int[] act;
        final int[] drone;

        /** A comb, a petition, or days. */
        final int[] number;

        final int[] doing;
        final int[] kind;

        PetitionText() {
            characters = new char[MOST_CHARACTERS];
            act = new int[MOST_THINGS];
            drone = new int[MOST_THINGS];
            number = new int[MOST_THINGS];
            doing = new int[MOST_THINGS];
            kind = new int[MOST_THINGS];
        }

        int append(char character) {
            if (length >= MOST_CHARACTERS) {
                return FULL;
            }
            characters[length] = character;
            length++;
            return length;
        }

        int empty() {
            int previous = length;
            length = 0;
            return previous;
        }

        /** Reads the whole text into things; answers its fault, or NO_FAULT. */
        int read() {
            at = 0;
            things = 0;
            while (things < MOST_THINGS) {
                if (!readThing(things)) {
                    return at;
                }
                things++;
                if (at >= length) {
                    return NO_FAULT;
                }
                if (!skip(';')) {
                    return at;
                }
            }
            // So many things, each with its ";", leave no room for one more: the text ends too early.
            return at;
        }

        private boolean readThing(int thing) {
            if (skip('p')) {
                act[thing] = TO_PETITION;
                return readPetition(thing);
            }
            if (skip('y')) {
                act[thing] = TO_SECOND;
                return readSeconding(thing);
            }
            if (skip('.')) {
                act[thing] = TO_PASS;
                number[thing] = readNumber(1, MOST_DAYS);
                return number[thing] >= 0;
            }
            return false;
        }

        private boolean readPetition(int thing) {
            drone[thing] = readNumber(0, MOST_DRONES - 1);
            if (drone[thing] < 0 || !skip(':')) {
                return false;
            }
            number[thing] = readNumber(0, PLACES - 1);
            if (number[thing] < 0 || !skip('.')) {
                return false;
            }
            doing[thing] = readNumber(0, DOINGS - 1);
            if (doing[thing] < 0) {
                return false;
            }
            kind[thing] = readKind();
            return kind[thing] >= 0;
        }

        private boolean readSeconding(int thing) {
            drone[thing] = readNumber(0, MOST_DRONES - 1);
            if (drone[thing] < 0 || !skip(':')) {
                return false;
            }
            number[thing] = readNumber(0, MOST_PETITIONS - 1);
            return number[thing] >= 0;
        }

        private int readKind() {
            if (skip('+')) {
                return ALLOWED;
            }
            if (skip('-')) {
                return FORBIDDEN;
            }
            return skip('x') ? REPEAL : -1;
        }

        /** Reads a number as far as its digits are allowed; -1 if not even the first one is. */
        private int readNumber(int least, int most) {
            int value = digitHere();
            if (value < least || value > most) {
                return -1;
            }
            at++;
            while (value > 0 && at < length) {
                int digit = digitHere();
                if (digit < 0 || value * 10 + digit > most) {
                    return value;
                }
                value = value * 10 + digit;
                at++;
            }
            return value;
        }

        private int digitHere() {
            if (at >= length || characters[at] < '0' || characters[at] > '9') {
                return -1;
            }
            return characters[at] - '0';
        }

        private boolean skip(char wanted) {
            if (at >= length || characters[at] != wanted) {
                return false;
            }
            at++;
            return true;
        }
    }
}
