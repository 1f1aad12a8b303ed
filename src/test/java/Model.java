import java.util.ArrayDeque;
import java.util.ArrayList;
import java.util.Comparator;
import java.util.List;
import java.util.Map;
import java.util.TreeMap;
import java.util.regex.Matcher;
import java.util.regex.Pattern;

/**
 * The document once more, written another way: with collections, a new state for each act, and texts
 * by a pattern. ModelTest compares it with the program.
 */
final class Model {
    private static final Pattern TEXT;
    private static final Pattern THING;

    static {
        String two = "(1[01]|[0-9])";
        String thing = "(?:p" + two + ":([0-6])\\.(1[0-9]|[0-9])([-+x])|y" + two + ":" + two + "|\\.([1-9][0-9]?))";
        THING = Pattern.compile(thing, Pattern.DOTALL);
        TEXT = Pattern.compile(thing + "(?:;" + thing + ")*", Pattern.DOTALL);
    }

    record Spot(int place, int doing) implements Comparable<Spot> {
        public int compareTo(Spot other) {
            return place != other.place ? place - other.place : doing - other.doing;
        }
    }

    record Bylaw(boolean allows, int strength, int season) {}

    record Drone(int comb, int weight, int made, int passed, int refused) {}

    record Petition(int number, int drone, Spot spot, int kind, List<Integer> seconders) {}

    record Refusal(Spot spot, int kind, int support) {}

    /** Never changed after it was made, but for the lists and the map while it is being made. */
    static final class Situation {
        final List<Drone> drones = new ArrayList<>();
        final TreeMap<Spot, Bylaw> bylaws = new TreeMap<>();
        final List<Petition> petitions = new ArrayList<>();
        final List<Refusal> refusals = new ArrayList<>();
        int day;
        int season;
        int days;
        int mood = 5;
        int length = 10;
        int repeals;

        Situation copy() {
            Situation s = new Situation();
            s.drones.addAll(drones);
            s.bylaws.putAll(bylaws);
            for (Petition p : petitions) {
                s.petitions.add(new Petition(p.number, p.drone, p.spot, p.kind, new ArrayList<>(p.seconders)));
            }
            s.refusals.addAll(refusals);
            s.day = day;
            s.season = season;
            s.days = days;
            s.mood = mood;
            s.length = length;
            s.repeals = repeals;
            return s;
        }

        int support(Petition p) {
            return drones.get(p.drone).weight + p.seconders.stream().mapToInt(d -> drones.get(d).weight).sum();
        }

        int concerned(int place) {
            return drones.stream().filter(d -> place == 6 || d.comb == place).mapToInt(Drone::weight).sum();
        }

        List<Petition> inOrder() {
            List<Petition> order = new ArrayList<>(petitions);
            order.sort(Comparator.comparingInt((Petition p) -> -support(p)).thenComparingInt(Petition::number));
            return order;
        }

        int reason(Petition p, int support) {
            Bylaw there = bylaws.get(p.spot);
            Bylaw hive = bylaws.get(new Spot(6, p.spot.doing));
            boolean wants = p.kind == 1;
            if (support < mood) {
                return 1;
            }
            for (Refusal r : refusals) {
                if (r.spot.equals(p.spot) && r.kind == p.kind && support <= r.support) {
                    return 2;
                }
            }
            if (p.spot.place != 6 && p.kind != 2 && hive != null && hive.allows != wants && hive.strength > support) {
                return 3;
            }
            if (p.kind == 2 ? there == null : there != null && there.allows == wants && there.strength >= support) {
                return 4;
            }
            return p.kind == 2 && support * 2 <= concerned(p.spot.place) ? 5 : 0;
        }

        /** The reasons by number; changes the bylaws. */
        Map<Integer, Integer> hear() {
            Map<Integer, Integer> reasons = new TreeMap<>();
            for (Petition p : inOrder()) {
                int reason = reason(p, support(p));
                reasons.put(p.number, reason);
                if (reason == 0 && p.kind == 2) {
                    bylaws.remove(p.spot);
                    repeals++;
                } else if (reason == 0) {
                    bylaws.put(p.spot, new Bylaw(p.kind == 1, support(p), season));
                }
            }
            return reasons;
        }

        int endDay() {
            day++;
            days++;
            if (days < length) {
                return 0;
            }
            Map<Integer, Integer> reasons = hear();
            refusals.clear();
            int passing = 0;
            for (Petition p : petitions) {
                boolean passes = reasons.get(p.number) == 0;
                passing += passes ? 1 : 0;
                Drone d = drones.get(p.drone);
                drones.set(p.drone, new Drone(d.comb, d.weight, d.made, d.passed + (passes ? 1 : 0), d.refused + (passes ? 0 : 1)));
                if (!passes) {
                    refusals.add(new Refusal(p.spot, p.kind, support(p)));
                }
            }
            petitions.clear();
            season++;
            days = 0;
            return passing;
        }

        /** The spot of the bylaw that rules, or null. */
        Spot ruling(int comb, int doing) {
            Spot own = new Spot(comb, doing);
            Spot whole = new Spot(6, doing);
            Bylaw a = bylaws.get(own);
            Bylaw b = bylaws.get(whole);
            if (a == null) {
                return b == null ? null : whole;
            }
            return b == null || a.strength >= b.strength ? own : whole;
        }
    }

    private Situation now = new Situation();
    private final ArrayDeque<Situation> history = new ArrayDeque<>();
    private Situation snapshot = null;
    private StringBuilder text = new StringBuilder();
    private int[] stop = null;

    private int act(Situation next, int answer) {
        if (answer >= 0) {
            history.addLast(now);
            if (history.size() > 4) {
                history.removeFirst();
            }
            now = next;
        }
        return answer;
    }

    private static boolean in(int value, int least, int most) {
        return value >= least && value <= most;
    }

    private boolean known(int drone) {
        return in(drone, 0, now.drones.size() - 1);
    }

    private boolean pending(int petition) {
        return in(petition, 0, now.petitions.size() - 1);
    }

    int come(int comb, int weight) {
        if (!in(comb, 0, 5)) {
            return -1;
        }
        if (!in(weight, 1, 9)) {
            return -2;
        }
        if (now.drones.size() == 12) {
            return -3;
        }
        Situation next = now.copy();
        next.drones.add(new Drone(comb, weight, 0, 0, 0));
        return act(next, next.drones.size() - 1);
    }

    int move(int drone, int comb) {
        if (!known(drone) || !in(comb, 0, 5)) {
            return -1;
        }
        Drone d = now.drones.get(drone);
        if (d.comb == comb) {
            return -5;
        }
        Situation next = now.copy();
        next.drones.set(drone, new Drone(comb, d.weight, d.made, d.passed, d.refused));
        return act(next, d.comb);
    }

    private static int petition(Situation s, int drone, int comb, int doing, int kind) {
        if (!in(drone, 0, s.drones.size() - 1) || !in(comb, 0, 6) || !in(doing, 0, 19)) {
            return -1;
        }
        if (!in(kind, 0, 2)) {
            return -2;
        }
        Drone d = s.drones.get(drone);
        if (s.petitions.stream().anyMatch(p -> p.drone == drone) || comb != 6 && comb != d.comb) {
            return -4;
        }
        int number = s.petitions.size();
        s.petitions.add(new Petition(number, drone, new Spot(comb, doing), kind, new ArrayList<>()));
        s.drones.set(drone, new Drone(d.comb, d.weight, d.made + 1, d.passed, d.refused));
        return number;
    }

    int petition(int drone, int comb, int doing, int kind) {
        Situation next = now.copy();
        return act(next, petition(next, drone, comb, doing, kind));
    }

    private static int second(Situation s, int drone, int petition) {
        if (!in(drone, 0, s.drones.size() - 1) || !in(petition, 0, s.petitions.size() - 1)) {
            return -1;
        }
        Petition p = s.petitions.get(petition);
        if (p.drone == drone) {
            return -4;
        }
        if (p.seconders.contains(drone)) {
            return -5;
        }
        p.seconders.add(drone);
        return s.support(p);
    }

    int second(int drone, int petition) {
        Situation next = now.copy();
        return act(next, second(next, drone, petition));
    }

    private static int pass(Situation s, int days) {
        if (!in(days, 1, 99)) {
            return -2;
        }
        if (s.day + days > 99999) {
            return -3;
        }
        int passing = 0;
        for (int i = 0; i < days; i++) {
            passing += s.endDay();
        }
        return passing;
    }

    int pass(int days) {
        Situation next = now.copy();
        return act(next, pass(next, days));
    }

    int set(int which, int value) {
        if (!in(which, 0, 1)) {
            return -1;
        }
        if (!in(value, which, 60)) {
            return -2;
        }
        int previous = which == 0 ? now.mood : now.length;
        if (previous == value) {
            return -5;
        }
        Situation next = now.copy();
        if (which == 0) {
            next.mood = value;
        } else {
            next.length = value;
        }
        return act(next, previous);
    }

    int type(char character) {
        if (text.length() == 60) {
            return -3;
        }
        text.append(character);
        return text.length();
    }

    int clearText() {
        int length = text.length();
        text = new StringBuilder();
        return length;
    }

    /** The first index up to which no text can begin so; -1 if the text is whole. */
    private int fault() {
        for (int i = 0; i < text.length(); i++) {
            Matcher m = TEXT.matcher(text.substring(0, i + 1));
            if (!m.matches() && !m.hitEnd()) {
                return i;
            }
        }
        return TEXT.matcher(text).matches() ? -1 : text.length();
    }

    int perform() {
        int fault = fault();
        if (fault >= 0) {
            return -100 - fault;
        }
        Situation next = now.copy();
        String[] things = text.toString().split(";");
        for (int i = 0; i < things.length; i++) {
            int answer = thing(next, things[i]);
            if (answer < 0 && answer != -5) {
                stop = new int[] {i, answer};
                return -4;
            }
        }
        return act(next, things.length);
    }

    private static int thing(Situation s, String thing) {
        Matcher m = THING.matcher(thing);
        if (!m.matches()) {
            throw new IllegalStateException(thing);
        }
        if (m.group(7) != null) {
            return pass(s, Integer.parseInt(m.group(7)));
        }
        if (m.group(5) != null) {
            return second(s, Integer.parseInt(m.group(5)), Integer.parseInt(m.group(6)));
        }
        int kind = "-+x".indexOf(m.group(4));
        return petition(s, Integer.parseInt(m.group(1)), Integer.parseInt(m.group(2)), Integer.parseInt(m.group(3)), kind);
    }

    int stopped(int what) {
        return !in(what, 0, 1) ? -2 : stop == null ? -5 : stop[what];
    }

    int undo() {
        if (history.isEmpty()) {
            return -5;
        }
        now = history.removeLast();
        return history.size();
    }

    int keep() {
        snapshot = now;
        return now.bylaws.size();
    }

    int restore() {
        return snapshot == null ? -5 : act(snapshot, snapshot.bylaws.size());
    }

    int drone(int drone, int what) {
        if (!known(drone)) {
            return -1;
        }
        Drone d = now.drones.get(drone);
        return switch (what) {
            case 0 -> d.comb;
            case 1 -> d.weight;
            case 2 -> now.petitions.stream().filter(p -> p.drone == drone).mapToInt(Petition::number).findFirst().orElse(-5);
            case 3 -> now.petitions.stream().filter(p -> p.seconders.contains(drone)).mapToInt(p -> 1 << p.number).sum();
            case 4 -> d.made;
            case 5 -> d.passed;
            case 6 -> d.refused;
            default -> -2;
        };
    }

    int bylaw(int rank, int what) {
        if (rank < 0 || !in(what, 0, 5)) {
            return -2;
        }
        List<Spot> spots = new ArrayList<>(now.bylaws.keySet());
        if (rank >= spots.size()) {
            return -5;
        }
        Spot spot = spots.get(rank);
        Bylaw b = now.bylaws.get(spot);
        return switch (what) {
            case 0 -> spot.place;
            case 1 -> spot.doing;
            case 2 -> b.allows ? 1 : 0;
            case 3 -> b.strength;
            case 4 -> b.season;
            default -> now.concerned(spot.place);
        };
    }

    int petitionOf(int petition, int what) {
        if (!pending(petition)) {
            return -1;
        }
        Petition p = now.petitions.get(petition);
        return switch (what) {
            case 0 -> p.drone;
            case 1 -> p.spot.place;
            case 2 -> p.spot.doing;
            case 3 -> p.kind;
            case 4 -> now.support(p);
            case 5 -> p.seconders.stream().mapToInt(d -> 1 << d).sum();
            default -> -2;
        };
    }

    int heard(int rank) {
        return rank < 0 ? -2 : rank >= now.petitions.size() ? -5 : now.inOrder().get(rank).number;
    }

    int rule(int comb, int doing, int what) {
        if (!in(comb, 0, 5) || !in(doing, 0, 19)) {
            return -1;
        }
        if (!in(what, 0, 2)) {
            return -2;
        }
        Spot spot = now.ruling(comb, doing);
        if (spot == null) {
            return what == 0 ? 1 : -5;
        }
        Bylaw b = now.bylaws.get(spot);
        return what == 0 ? (b.allows ? 1 : 0) : what == 1 ? spot.place : b.strength;
    }

    int reason(int petition) {
        return pending(petition) ? now.copy().hear().get(petition) : -1;
    }

    int wouldPass() {
        int set = 0;
        for (Map.Entry<Integer, Integer> e : now.copy().hear().entrySet()) {
            set += e.getValue() == 0 ? 1 << e.getKey() : 0;
        }
        return set;
    }

    int lacks(int petition) {
        if (!pending(petition)) {
            return -1;
        }
        Petition p = now.petitions.get(petition);
        int more = 0;
        while (now.reason(p, now.support(p) + more) != 0) {
            more++;
            if (more > 1000) {
                return -5;
            }
        }
        return more;
    }

    int free() {
        int set = 0;
        for (int i = 0; i < now.drones.size(); i++) {
            set += drone(i, 2) == -5 ? 1 << i : 0;
        }
        return set;
    }

    int oldest(int drone, int what) {
        if (!known(drone)) {
            return -1;
        }
        if (!in(what, 0, 1)) {
            return -2;
        }
        int comb = now.drones.get(drone).comb;
        int rank = 0;
        int best = -5;
        int season = -5;
        for (Map.Entry<Spot, Bylaw> e : now.bylaws.entrySet()) {
            boolean rules = e.getKey().equals(now.ruling(comb, e.getKey().doing));
            if (rules && (best < 0 || e.getValue().season < season)) {
                best = rank;
                season = e.getValue().season;
            }
            rank++;
        }
        return what == 0 ? best : season;
    }

    int count(int what) {
        return switch (what) {
            case 0 -> now.day;
            case 1 -> now.season;
            case 2 -> now.days;
            case 3 -> now.drones.size();
            case 4 -> now.bylaws.size();
            case 5 -> (int) now.bylaws.values().stream().filter(b -> !b.allows).count();
            case 6 -> now.petitions.size();
            case 7 -> now.drones.stream().mapToInt(Drone::made).sum();
            case 8 -> now.drones.stream().mapToInt(Drone::passed).sum();
            case 9 -> now.drones.stream().mapToInt(Drone::refused).sum();
            case 10 -> now.repeals;
            case 11 -> {
                int forbidden = 0;
                for (int i = 0; i < 120; i++) {
                    forbidden += 1 - rule(i / 20, i % 20, 0);
                }
                yield forbidden;
            }
            case 12 -> now.mood;
            case 13 -> now.length;
            case 14 -> history.size();
            case 15 -> text.length();
            default -> -2;
        };
    }
}
