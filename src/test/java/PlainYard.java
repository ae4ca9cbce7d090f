import java.util.ArrayList;
import java.util.List;

/**
 * The document once more, in the most direct form and without any regard to speed: what StageYard
 * answers is held against this. It shares no code with StageYard and takes other ways on purpose.
 */
final class PlainYard {
    static final int NONE = -1, BAD = -2, STATE = -3, FULL = -4, NO_WAY = -5;

    static final class Kind {
        int thrust, exhaust, mass, cost, store, bought;
    }

    static final class Step {
        int engine, many, stuff, frame;

        Step(int engine, int many, int stuff, int frame) {
            this.engine = engine;
            this.many = many;
            this.stuff = stuff;
            this.frame = frame;
        }
    }

    static final class Trip {
        int[] needs;
        int end, worth;
    }

    static final class Flown {
        int ticks, height, pace, greatest = -1, greatestTick, brokenTick = NONE, fell, broke;
    }

    final List<Kind> kinds = new ArrayList<>();
    final List<Step> steps = new ArrayList<>();
    final List<Trip> trips = new ArrayList<>();
    final int[][] delivered = new int[3][12];
    final int[] airs = {100, 90, 80, 70, 60, 50, 40, 30, 20, 10};
    int load = 10, share = 10, learn = 90;
    int limitLoading = 1000000, limitHeight = 0, limitPace = 0;
    int[] lots = {};
    int[][] choice = {};
    Flown flown = null;

    static boolean off(int n, int least, int most) {
        return n < least || n > most;
    }

    boolean noKind(int e) {
        return off(e, 0, kinds.size() - 1);
    }

    boolean noStep(int k) {
        return off(k, 0, steps.size() - 1);
    }

    int engine(int thrust, int exhaust, int mass, int cost) {
        if (off(thrust, 1, 999) || off(exhaust, 1, 999) || off(mass, 1, 99) || off(cost, 1, 9999)) return BAD;
        if (kinds.size() == 6) return FULL;
        Kind kind = new Kind();
        kind.thrust = thrust;
        kind.exhaust = exhaust;
        kind.mass = mass;
        kind.cost = cost;
        kinds.add(kind);
        return kinds.size() - 1;
    }

    int store(int e, int n) {
        if (noKind(e)) return NONE;
        if (off(n, 1, 99)) return BAD;
        if (kinds.get(e).store + n > 99) return FULL;
        return kinds.get(e).store += n;
    }

    int stage(int e, int many, int stuff, int frame) {
        if (noKind(e)) return NONE;
        if (off(many, 1, 9) || off(stuff, 0, 600) || off(frame, 0, 99)) return BAD;
        if (steps.size() == 4) return FULL;
        steps.add(new Step(e, many, stuff, frame));
        return steps.size();
    }

    int undo() {
        if (steps.isEmpty()) return STATE;
        steps.remove(steps.size() - 1);
        return steps.size();
    }

    int stuff(int k, int n) {
        if (noStep(k)) return NONE;
        if (off(n, 0, 600)) return BAD;
        int was = steps.get(k).stuff;
        steps.get(k).stuff = n;
        return was;
    }

    int set(int what, int n) {
        int was;
        if (what == 0) {
            if (off(n, 0, 999)) return BAD;
            was = load;
            load = n;
        } else if (what == 1) {
            if (off(n, 1, 50)) return BAD;
            was = share;
            share = n;
        } else if (what == 2) {
            if (off(n, 50, 100)) return BAD;
            was = learn;
            learn = n;
        } else {
            return NONE;
        }
        return was;
    }

    int dry(Step s) {
        int hundredths = s.stuff * share;
        int tank = hundredths / 100 + (hundredths % 100 > 0 ? 1 : 0);
        return s.many * kinds.get(s.engine).mass + tank + s.frame;
    }

    int massAhead(List<Step> rocket, int from) {
        int sum = load;
        for (Step s : rocket.subList(from, rocket.size())) sum += dry(s) + s.stuff;
        return sum;
    }

    long low(List<Step> rocket, int k, int keep) {
        long sum = 0;
        int mass = massAhead(rocket, k);
        for (int left = rocket.get(k).stuff; left > keep; left--) {
            sum += kinds.get(rocket.get(k).engine).exhaust * 1000 / mass;
            mass--;
        }
        return sum;
    }

    long high(List<Step> rocket, int k) {
        long sum = 0;
        int mass = massAhead(rocket, k);
        for (int left = rocket.get(k).stuff; left > 0; left--) {
            mass--;
            sum += (long) Math.ceil(kinds.get(rocket.get(k).engine).exhaust * 1000.0 / mass);
        }
        return sum;
    }

    long lowOfAll(List<Step> rocket) {
        long sum = 0;
        for (int k = 0; k < rocket.size(); k++) sum += low(rocket, k, 0);
        return sum;
    }

    int lift(List<Step> rocket, int k) {
        Step s = rocket.get(k);
        return kinds.get(s.engine).thrust * s.many * 100 / massAhead(rocket, k);
    }

    int about(int k, int what) {
        if (noStep(k)) return NONE;
        Step s = steps.get(k);
        if (what == 0) return s.engine;
        if (what == 1) return s.many;
        if (what == 2) return s.stuff;
        if (what == 3) return s.frame;
        if (what == 4) return dry(s);
        if (what == 5) return massAhead(steps, k);
        if (what == 6) return (int) low(steps, k, 0);
        if (what == 7) return (int) high(steps, k);
        if (what == 8) return lift(steps, k);
        return NONE;
    }

    int speed(int what) {
        if (what == 0) return (int) lowOfAll(steps);
        if (what != 1) return NONE;
        long sum = 0;
        for (int k = 0; k < steps.size(); k++) sum += high(steps, k);
        return (int) sum;
    }

    /** All ways to lay so many lots on the stages from k on, the fewest in the lower ones first. */
    static void ways(int k, int stages, int rest, int[] now, List<int[]> all) {
        if (k == stages - 1) {
            now[k] = rest;
            all.add(now.clone());
            return;
        }
        for (int n = 0; n <= rest; n++) {
            now[k] = n;
            ways(k + 1, stages, rest - n, now, all);
        }
    }

    int split(int count, int size) {
        if (off(count, 0, 20) || off(size, 1, 30)) return BAD;
        if (steps.isEmpty()) return STATE;
        List<int[]> all = new ArrayList<>();
        ways(0, steps.size(), count, new int[steps.size()], all);
        long best = -1;
        for (int[] way : all) {
            List<Step> rocket = new ArrayList<>();
            for (int k = 0; k < steps.size(); k++) {
                Step s = steps.get(k);
                rocket.add(new Step(s.engine, s.many, way[k] * size, s.frame));
            }
            long low = lowOfAll(rocket);
            if (low > best) {
                best = low;
                lots = way;
            }
        }
        return (int) best;
    }

    int lots(int k) {
        return off(k, 0, lots.length - 1) ? NONE : lots[k];
    }

    int cheapest(int speed, int lift) {
        if (off(speed, 0, 1000000) || off(lift, 0, 1000)) return BAD;
        if (steps.isEmpty() || kinds.isEmpty() || steps.size() == 4) return STATE;
        int options = kinds.size() * 3;
        int all = 1;
        for (int k = 0; k < steps.size(); k++) all *= options;
        int best = Integer.MAX_VALUE;
        for (int number = 0; number < all; number++) {
            List<Step> rocket = new ArrayList<>();
            int rest = number;
            int cost = 0;
            for (int k = steps.size() - 1; k >= 0; k--) {
                int option = rest % options;
                rest /= options;
                Step s = steps.get(k);
                rocket.add(0, new Step(option / 3, option % 3 + 1, s.stuff, s.frame));
                cost += kinds.get(option / 3).cost * (option % 3 + 1);
            }
            if (cost >= best || !serves(rocket, speed, lift)) continue;
            best = cost;
            choice = new int[rocket.size()][];
            for (int k = 0; k < rocket.size(); k++) {
                choice[k] = new int[] {rocket.get(k).engine, rocket.get(k).many};
            }
        }
        return best == Integer.MAX_VALUE ? NO_WAY : best;
    }

    boolean serves(List<Step> rocket, int speed, int lift) {
        for (int k = 0; k < rocket.size(); k++) {
            if (lift(rocket, k) < lift) return false;
        }
        return lowOfAll(rocket) >= speed;
    }

    int chosen(int k, int what) {
        return off(k, 0, choice.length - 1) || off(what, 0, 1) ? NONE : choice[k][what];
    }

    int air(int layer, int n) {
        if (off(layer, 0, 9)) return NONE;
        if (off(n, 0, 999)) return BAD;
        int was = airs[layer];
        airs[layer] = n;
        return was;
    }

    int limit(int what, int n) {
        if (off(what, 0, 2)) return NONE;
        if (off(n, 0, 1000000)) return BAD;
        int was = what == 0 ? limitLoading : what == 1 ? limitHeight : limitPace;
        if (what == 0) limitLoading = n;
        if (what == 1) limitHeight = n;
        if (what == 2) limitPace = n;
        return was;
    }

    static int stuffIn(List<Step> rocket) {
        int sum = 0;
        for (Step s : rocket) sum += s.stuff;
        return sum;
    }

    /** A flight, with an engine out from a tick on (NONE: with none). */
    Flown flight(int outTick) {
        Flown f = new Flown();
        List<Integer> stuff = new ArrayList<>();
        List<Integer> engines = new ArrayList<>();
        List<Step> rocket = new ArrayList<>(steps);
        for (Step s : rocket) {
            stuff.add(s.stuff);
            engines.add(s.many);
        }
        while (f.ticks < 2000 && stuff.stream().mapToInt(n -> n).sum() > 0) {
            boolean out = f.ticks == outTick;
            while (stuff.get(0) == 0 || out) {
                if (stuff.get(0) > 0) {
                    out = false;
                    engines.set(0, engines.get(0) - 1);
                    if (engines.get(0) > 0) break;
                }
                stuff.remove(0);
                engines.remove(0);
                rocket.remove(0);
                f.fell++;
                if (stuff.stream().mapToInt(n -> n).sum() == 0) break;
            }
            if (stuff.stream().mapToInt(n -> n).sum() == 0) break;
            tick(f, rocket, stuff, engines);
        }
        f.broke = f.brokenTick != NONE ? 1 : f.height < limitHeight ? 2 : f.pace < limitPace ? 3 : 0;
        return f;
    }

    void tick(Flown f, List<Step> rocket, List<Integer> stuff, List<Integer> engines) {
        long mass = load;
        for (int k = 0; k < rocket.size(); k++) mass += dry(rocket.get(k)) + stuff.get(k);
        long air = f.height > 9999 ? 0 : airs[f.height / 1000];
        long drag = (long) f.pace * f.pace / 100 * air / 100;
        if (drag > f.greatest) {
            f.greatest = (int) drag;
            f.greatestTick = f.ticks;
        }
        if (drag > limitLoading && f.brokenTick == NONE) f.brokenTick = f.ticks;
        int burnt = Math.min(stuff.get(0), engines.get(0));
        long push = (long) kinds.get(rocket.get(0).engine).thrust * burnt;
        long gain = 100 * push - 100 * mass + (f.pace < 0 ? drag : -drag);
        long pace = f.pace + gain / mass;
        f.pace = (int) (pace > 100000 ? 100000 : pace < -100000 ? -100000 : pace);
        f.height += f.pace;
        if (f.height < 0) {
            f.height = 0;
            f.pace = 0;
        }
        stuff.set(0, stuff.get(0) - burnt);
        f.ticks++;
        if (stuff.get(0) == 0) {
            stuff.remove(0);
            engines.remove(0);
            rocket.remove(0);
            f.fell++;
        }
    }

    int fly() {
        if (stuffIn(steps) == 0) return STATE;
        flown = flight(NONE);
        return flown.broke;
    }

    int flown(int what) {
        if (flown == null) return NONE;
        if (what == 0) return flown.ticks;
        if (what == 1) return flown.height;
        if (what == 2) return flown.pace;
        if (what == 3) return flown.greatest;
        if (what == 4) return flown.greatestTick;
        if (what == 5) return flown.brokenTick;
        if (what == 6) return flown.fell;
        return NONE;
    }

    int out(int tick) {
        if (off(tick, 0, 1999)) return BAD;
        if (stuffIn(steps) == 0) return STATE;
        return flight(tick).broke;
    }

    int safe() {
        if (stuffIn(steps) == 0) return STATE;
        int all = flight(NONE).ticks;
        int sum = 0;
        for (int t = 0; t < all; t++) {
            if (flight(t).broke == 0) sum++;
        }
        return sum;
    }

    int costAt(Kind kind, int i) {
        int cost = kind.cost;
        for (int k = 0; k < i; k++) cost = cost * learn / 100;
        return cost < 1 ? 1 : cost;
    }

    int cost(int e, int i) {
        if (noKind(e)) return NONE;
        if (off(i, 0, 999)) return BAD;
        return costAt(kinds.get(e), i);
    }

    int priceFrom(int[] stored, int[] bought) {
        int sum = 0;
        for (Step s : steps) {
            for (int n = 0; n < s.many; n++) {
                if (stored[s.engine] > 0) {
                    stored[s.engine]--;
                } else {
                    sum += costAt(kinds.get(s.engine), bought[s.engine]);
                    bought[s.engine]++;
                }
            }
            sum += s.frame;
            if (s.stuff > 0) sum += share;
        }
        return sum;
    }

    int[] storedNow() {
        return kinds.stream().mapToInt(kind -> kind.store).toArray();
    }

    int[] boughtNow() {
        return kinds.stream().mapToInt(kind -> kind.bought).toArray();
    }

    int price() {
        return steps.isEmpty() ? STATE : priceFrom(storedNow(), boughtNow());
    }

    int buy() {
        if (steps.isEmpty()) return STATE;
        int[] stored = storedNow();
        int[] bought = boughtNow();
        int sum = priceFrom(stored, bought);
        for (int n : bought) {
            if (n > 900) return FULL;
        }
        for (int e = 0; e < kinds.size(); e++) {
            kinds.get(e).store = stored[e];
            kinds.get(e).bought = bought[e];
        }
        return sum;
    }

    int keeping(int k, int keep) {
        if (noStep(k)) return NONE;
        if (off(keep, 0, 100) || keep > steps.get(k).stuff) return BAD;
        return (int) low(steps, k, keep);
    }

    int even(int k, int mend, int gear) {
        if (noStep(k)) return NONE;
        if (off(mend, 0, 200) || off(gear, 0, 99999)) return BAD;
        long engines = (long) steps.get(k).many * kinds.get(steps.get(k).engine).cost;
        for (long f = 1; f <= 100; f++) {
            if (engines * 100 + gear * 100L + (f - 1) * mend * engines < f * engines * 100) return (int) f;
        }
        return NO_WAY;
    }

    int flight(int a, int b, int c, int end, int worth) {
        if (off(a, 0, 9) || off(b, 0, 9) || off(c, 0, 9) || off(end, 0, 11) || off(worth, 0, 999)) return BAD;
        if (trips.size() == 10) return FULL;
        Trip trip = new Trip();
        trip.needs = new int[] {a, b, c};
        trip.end = end;
        trip.worth = worth;
        trips.add(trip);
        return trips.size() - 1;
    }

    int deliver(int e, int month, int n) {
        if (off(e, 0, 2) || off(month, 0, 11)) return NONE;
        if (off(n, 0, 9)) return BAD;
        int was = delivered[e][month];
        delivered[e][month] = n;
        return was;
    }

    boolean flies(int set) {
        int[] stock = new int[3];
        for (int month = 0; month < 12; month++) {
            for (int e = 0; e < 3; e++) stock[e] += delivered[e][month];
            for (int f = 0; f < trips.size(); f++) {
                if ((set >> f & 1) == 0 || trips.get(f).end != month) continue;
                for (int e = 0; e < 3; e++) {
                    stock[e] -= trips.get(f).needs[e];
                    if (stock[e] < 0) return false;
                }
            }
        }
        return true;
    }

    int worth(int set) {
        int sum = 0;
        for (int f = 0; f < trips.size(); f++) sum += (set >> f & 1) * trips.get(f).worth;
        return sum;
    }

    int flights() {
        int best = 0;
        for (int set = 1; set < 1 << trips.size(); set++) {
            if (worth(set) > worth(best) && flies(set)) best = set;
        }
        return best;
    }

    int year() {
        return worth(flights());
    }

    int count(int what) {
        if (what == 0) return kinds.size();
        if (what == 1) return steps.size();
        if (what == 2) return trips.size();
        if (what == 3) return kinds.stream().mapToInt(kind -> kind.store).sum();
        if (what == 4) return kinds.stream().mapToInt(kind -> kind.bought).sum();
        if (what == 5) return massAhead(steps, 0);
        return NONE;
    }
}
