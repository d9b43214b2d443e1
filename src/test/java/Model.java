import java.util.ArrayList;
import java.util.List;

/**
 * The document told once more, as slowly and plainly as can be: matches and plans are found by trying all.
 * It checks no arguments but by the words of each promise, and shares no code with PartShelves.
 */
final class Model {
    static final int NONE = -1;

    static final class Part {
        int kind;
        int age;
        long serial;
        int state;
        int heldFor;
        int heldUpTo;
        int soldTo;
        int soldOn;
    }

    static final class Ask {
        int product;
        long cents;
        long minute;
        boolean served;
    }

    int now = 0;
    final List<long[]> rows = new ArrayList<>();
    final boolean[][] fit = new boolean[6][6];
    final List<Part> parts = new ArrayList<>();
    final List<Ask> asks = new ArrayList<>();
    final List<int[]> jobs = new ArrayList<>();
    final int[] warranties = new int[6];
    final int[] lentTo = {NONE, NONE, NONE, NONE};
    final int[] lentUpTo = new int[4];
    List<Integer> told = new ArrayList<>();

    int[] found = null;
    long foundWorth = NONE;
    long[] partGains = {};
    long[] askGains = {};
    int planned = 0;
    long plannedCost = NONE;

    boolean in(long value, long low, long high) {
        return low <= value && value <= high;
    }

    boolean today(int day) {
        if (!in(day, 0, 100000) || day < now) return false;
        now = day;
        for (Part p : parts) if (p.state == 1 && p.heldUpTo < now) p.state = 0;
        return true;
    }

    boolean row(int age, long cents) {
        if (!in(age, 0, 1000) || !in(cents, 0, 100000) || rows.size() == 6) return false;
        for (long[] row : rows) if (row[0] >= age) return false;
        rows.add(new long[] {age, cents});
        return true;
    }

    boolean fits(int kind, int product, boolean is) {
        if (!in(kind, 0, 5) || !in(product, 0, 5)) return false;
        fit[kind][product] = is;
        return true;
    }

    int part(int kind, int age, long serial) {
        if (parts.size() == 8 || !in(kind, 0, 5) || !in(age, 0, 1000) || !in(serial, 0, 1000000000)) return NONE;
        Part p = new Part();
        p.kind = kind;
        p.age = age;
        p.serial = serial;
        parts.add(p);
        return parts.size() - 1;
    }

    long price(int part) {
        if (!in(part, 0, parts.size() - 1)) return NONE;
        long price = 0;
        for (long[] row : rows) if (row[0] <= parts.get(part).age) price = row[1];
        return price;
    }

    int state(int part) {
        return in(part, 0, parts.size() - 1) ? parts.get(part).state : NONE;
    }

    int ask(int product, long cents, long minute) {
        if (asks.size() == 8 || !in(product, 0, 5) || !in(cents, 0, 1000000) || !in(minute, 0, 1000000000)) return NONE;
        Ask a = new Ask();
        a.product = product;
        a.cents = cents;
        a.minute = minute;
        asks.add(a);
        return asks.size() - 1;
    }

    boolean hold(int part, int ask, int day) {
        if (state(part) != 0 || !in(ask, 0, asks.size() - 1) || asks.get(ask).served) return false;
        if (!in(day, 0, 100000) || day < now) return false;
        Part p = parts.get(part);
        p.state = 1;
        p.heldFor = ask;
        p.heldUpTo = day;
        return true;
    }

    boolean pair(int part, int ask) {
        Part p = parts.get(part);
        Ask a = asks.get(ask);
        return !a.served && fit[p.kind][a.product] && a.cents >= price(part)
                && (p.state == 0 || p.state == 1 && p.heldFor == ask);
    }

    private List<Integer> standing() {
        List<Integer> order = new ArrayList<>();
        for (int a = 0; a < asks.size(); a++) order.add(a);
        order.sort((a, b) -> asks.get(a).minute != asks.get(b).minute
                ? Long.compare(asks.get(a).minute, asks.get(b).minute) : Integer.compare(a, b));
        return order;
    }

    private long bestWorth;
    private int[] bestGiven;

    /** Tries all matches in their order, so that the first of the greatest worth is kept. */
    private void tryAll(List<Integer> order, int at, boolean[] used, int[] given, long worth) {
        if (at == order.size()) {
            if (worth > bestWorth) {
                bestWorth = worth;
                bestGiven = given.clone();
            }
            return;
        }
        int ask = order.get(at);
        for (int p = 0; p < parts.size(); p++) {
            if (!used[p] && pair(p, ask)) {
                used[p] = true;
                given[ask] = p;
                tryAll(order, at + 1, used, given, worth + asks.get(ask).cents - price(p));
                used[p] = false;
            }
        }
        given[ask] = NONE;
        tryAll(order, at + 1, used, given, worth);
    }

    private void best(int withoutPart, int withoutAsk) {
        bestWorth = -1;
        boolean[] used = new boolean[parts.size()];
        if (withoutPart != NONE) used[withoutPart] = true;
        List<Integer> order = standing();
        order.remove(Integer.valueOf(withoutAsk));
        int[] given = new int[asks.size()];
        java.util.Arrays.fill(given, NONE);
        tryAll(order, 0, used, given, 0);
    }

    int match() {
        best(NONE, NONE);
        found = bestGiven;
        foundWorth = bestWorth;
        partGains = new long[parts.size()];
        for (int p = 0; p < partGains.length; p++) {
            best(p, NONE);
            partGains[p] = foundWorth - bestWorth;
        }
        askGains = new long[asks.size()];
        for (int a = 0; a < askGains.length; a++) {
            best(NONE, a);
            askGains[a] = foundWorth - bestWorth;
        }
        int pairs = 0;
        for (int p : found) if (p != NONE) pairs++;
        return pairs;
    }

    int of(int ask) {
        return found != null && in(ask, 0, found.length - 1) ? found[ask] : NONE;
    }

    long worth() {
        return foundWorth;
    }

    long gain(int side, int k) {
        if (!in(side, 0, 1)) return NONE;
        long[] gains = side == 0 ? partGains : askGains;
        return in(k, 0, gains.length - 1) ? gains[k] : NONE;
    }

    int serve(int ask, int person) {
        int part = of(ask);
        if (part == NONE || !in(person, 0, 9) || !pair(part, ask)) return NONE;
        Part p = parts.get(part);
        p.state = 2;
        p.soldTo = person;
        p.soldOn = now;
        asks.get(ask).served = true;
        return part;
    }

    int job() {
        if (jobs.size() == 6) return NONE;
        jobs.add(new int[6]);
        return jobs.size() - 1;
    }

    boolean needs(int job, int kind, int n) {
        if (!in(job, 0, jobs.size() - 1) || !in(kind, 0, 5) || !in(n, 0, 3)) return false;
        jobs.get(job)[kind] = n;
        return true;
    }

    private long costOf(int set) {
        long sum = 0;
        for (int kind = 0; kind < 6; kind++) {
            int needed = 0;
            for (int j = 0; j < jobs.size(); j++) if ((set & (1 << j)) != 0) needed += jobs.get(j)[kind];
            List<Long> free = new ArrayList<>();
            for (int p = 0; p < parts.size(); p++) {
                if (parts.get(p).kind == kind && parts.get(p).state == 0) free.add(price(p));
            }
            if (free.size() < needed) return NONE;
            free.sort(null);
            for (int i = 0; i < needed; i++) sum += free.get(i);
        }
        return sum;
    }

    int plan() {
        int bestCount = -1;
        for (int set = (1 << jobs.size()) - 1; set >= 0; set--) {
            int count = Integer.bitCount(set);
            long cost = costOf(set);
            if (cost == NONE || count < bestCount) continue;
            if (count > bestCount || cost <= plannedCost) {
                bestCount = count;
                planned = set;
                plannedCost = cost;
            }
        }
        return bestCount;
    }

    long cost() {
        return plannedCost;
    }

    boolean does(int job) {
        return in(job, 0, 5) && (planned & (1 << job)) != 0;
    }

    boolean warranty(int kind, int days) {
        if (!in(kind, 0, 5) || !in(days, 0, 1000)) return false;
        warranties[kind] = days;
        return true;
    }

    boolean returned(int part) {
        if (state(part) != 2) return false;
        Part p = parts.get(part);
        if (now > p.soldOn + warranties[p.kind]) return false;
        p.state = 0;
        return true;
    }

    int recall(int kind, long from, long to) {
        if (!in(kind, 0, 5)) return NONE;
        told = new ArrayList<>();
        for (int i = 0; i < parts.size(); i++) {
            Part p = parts.get(i);
            if (p.kind != kind || p.serial < from || p.serial > to) continue;
            if (p.state == 2) told.add(10 * i + p.soldTo);
            else p.state = 3;
        }
        return told.size();
    }

    int recalled(int k) {
        return in(k, 0, told.size() - 1) ? told.get(k) : NONE;
    }

    boolean lend(int tool, int person, int day) {
        if (!in(tool, 0, 3) || !in(person, 0, 9) || !in(day, 0, 100000) || day < now) return false;
        if (lentTo[tool] != NONE) return false;
        lentTo[tool] = person;
        lentUpTo[tool] = day;
        return true;
    }

    int back(int tool) {
        if (!in(tool, 0, 3)) return NONE;
        int person = lentTo[tool];
        lentTo[tool] = NONE;
        return person;
    }

    int late(int k) {
        List<Integer> tools = new ArrayList<>();
        for (int t = 0; t < 4; t++) if (lentTo[t] != NONE && lentUpTo[t] < now) tools.add(t);
        return in(k, 0, tools.size() - 1) ? tools.get(k) : NONE;
    }
}
