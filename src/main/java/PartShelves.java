import java.util.ArrayList;

/**
 * Shelves of used parts: prices by age, asks that are matched with parts for the greatest worth, holds, repair
 * jobs, sales, warranties, recalls and lent tools.
 */
public final class PartShelves {
    public static final int NONE = -1;

    private static final int KINDS = 6;
    private static final int PRODUCTS = 6;
    private static final int PERSONS = 10;
    private static final int TOOLS = 4;
    private static final int MAX_ROWS = 6;
    private static final int MAX_PARTS = 8;
    private static final int MAX_ASKS = 8;
    private static final int MAX_JOBS = 6;

    private static final int LAST_DAY = 100000;
    private static final int LAST_AGE = 1000;
    private static final long MAX_PRICE = 100000L;
    private static final long MAX_ASK_CENTS = 1000000L;
    private static final long LAST_SERIAL = 1000000000L;
    private static final long LAST_MINUTE = 1000000000L;
    private static final int MAX_NEED = 3;
    private static final int MAX_WARRANTY = 1000;

    private static final int FREE = 0;
    private static final int HELD = 1;
    private static final int SOLD = 2;
    private static final int RECALLED = 3;

    private final PriceRows prices;
    private final boolean[] fitting;
    private final ArrayList<Part> parts;
    private final ArrayList<Ask> asks;
    private final ArrayList<Job> jobs;
    private final Matching matching;
    private final RepairPlan repairPlan;
    private final int[] warrantyDays;
    private final int[] toldAsSold;
    private int toldCount;
    private final int[] borrowers;
    private final int[] lentUpTo;
    private int currentDay;

    public PartShelves() {
        prices = new PriceRows();
        fitting = new boolean[KINDS * PRODUCTS];
        parts = new ArrayList<Part>();
        asks = new ArrayList<Ask>();
        jobs = new ArrayList<Job>();
        matching = new Matching();
        repairPlan = new RepairPlan();
        warrantyDays = new int[KINDS];
        toldAsSold = new int[MAX_PARTS];
        toldCount = 0;
        borrowers = new int[TOOLS];
        for (int tool = 0; tool < TOOLS; tool++) {
            borrowers[tool] = NONE;
        }
        lentUpTo = new int[TOOLS];
        currentDay = 0;
    }

    public boolean today(int day) {
        if (!isDayFromToday(day)) {
            return false;
        }
        currentDay = day;
        return true;
    }

    public boolean row(int age, long cents) {
        return isWithin(age, LAST_AGE) && isWithin(cents, MAX_PRICE) && prices.append(age, cents);
    }

    public boolean fits(int kind, int product, boolean is) {
        if (!isKind(kind) || !isProduct(product)) {
            return false;
        }
        fitting[kind * PRODUCTS + product] = is;
        return true;
    }

    public int part(int kind, int age, long serial) {
        int number = parts.size();
        if (number >= MAX_PARTS || !isKind(kind) || !isWithin(age, LAST_AGE) || !isWithin(serial, LAST_SERIAL)) {
            return NONE;
        }
        parts.add(new Part(kind, age, serial));
        return number;
    }

    public long price(int part) {
        Part asked = partAt(part);
        return asked == null ? NONE : prices.at(asked.age);
    }

    public int state(int part) {
        Part asked = partAt(part);
        return asked == null ? NONE : asked.stateOn(currentDay);
    }

    public int ask(int product, long cents, long minute) {
        int number = asks.size();
        if (number >= MAX_ASKS || !isProduct(product)
                || !isWithin(cents, MAX_ASK_CENTS) || !isWithin(minute, LAST_MINUTE)) {
            return NONE;
        }
        asks.add(new Ask(number, product, cents, minute));
        return number;
    }

    public boolean hold(int part, int ask, int day) {
        Part held = partAt(part);
        Ask holder = askAt(ask);
        if (held == null || holder == null || !isDayFromToday(day)) {
            return false;
        }
        if (held.stateOn(currentDay) != FREE || !holder.open) {
            return false;
        }
        held.holdFor(holder.number, day);
        return true;
    }

    public int match() {
        matching.begin(parts.size(), asks.size());
        for (int a = 0; a < asks.size(); a++) {
            Ask ask = asks.get(a);
            matching.stand(a, rankOf(ask));
            for (int p = 0; p < parts.size(); p++) {
                matching.offer(a, p, pairWorth(parts.get(p), ask));
            }
        }
        return matching.solve();
    }

    public int of(int ask) {
        return matching.partFor(ask);
    }

    public long worth() {
        return matching.total;
    }

    public long gain(int side, int k) {
        if (side == 0) {
            return matching.gainOfPart(k);
        }
        return side == 1 ? matching.gainOfAsk(k) : NONE;
    }

    public int serve(int ask, int person) {
        Ask served = askAt(ask);
        int number = matching.partFor(ask);
        Part sold = partAt(number);
        if (served == null || sold == null || !isPerson(person) || pairWorth(sold, served) == NONE) {
            return NONE;
        }
        sold.sellTo(person, currentDay);
        served.open = false;
        return number;
    }

    public int job() {
        int number = jobs.size();
        if (number >= MAX_JOBS) {
            return NONE;
        }
        jobs.add(new Job());
        return number;
    }

    public boolean needs(int job, int kind, int n) {
        if (job < 0 || job >= jobs.size() || !isKind(kind) || !isWithin(n, MAX_NEED)) {
            return false;
        }
        jobs.get(job).needs[kind] = n;
        return true;
    }

    public int plan() {
        repairPlan.begin();
        for (int p = 0; p < parts.size(); p++) {
            Part part = parts.get(p);
            if (part.stateOn(currentDay) == FREE) {
                repairPlan.stock(part.kind, prices.at(part.age));
            }
        }
        return repairPlan.choose(jobs);
    }

    public long cost() {
        return repairPlan.total;
    }

    public boolean does(int job) {
        return job >= 0 && job < MAX_JOBS && hasMember(repairPlan.chosen, job);
    }

    public boolean warranty(int kind, int days) {
        if (!isKind(kind) || !isWithin(days, MAX_WARRANTY)) {
            return false;
        }
        warrantyDays[kind] = days;
        return true;
    }

    public boolean returned(int part) {
        Part back = partAt(part);
        if (back == null || back.state != SOLD || currentDay - back.day > warrantyDays[back.kind]) {
            return false;
        }
        back.state = FREE;
        return true;
    }

    public int recall(int kind, long from, long to) {
        if (!isKind(kind)) {
            return NONE;
        }
        toldCount = 0;
        for (int p = 0; p < parts.size(); p++) {
            Part part = parts.get(p);
            if (part.kind == kind && part.serial >= from && part.serial <= to) {
                recallOne(p, part);
            }
        }
        return toldCount;
    }

    public int recalled(int k) {
        return k >= 0 && k < toldCount ? toldAsSold[k] : NONE;
    }

    public boolean lend(int tool, int person, int day) {
        if (!isTool(tool) || !isPerson(person) || !isDayFromToday(day) || borrowers[tool] != NONE) {
            return false;
        }
        borrowers[tool] = person;
        lentUpTo[tool] = day;
        return true;
    }

    public int back(int tool) {
        if (!isTool(tool)) {
            return NONE;
        }
        int person = borrowers[tool];
        borrowers[tool] = NONE;
        return person;
    }

    public int late(int k) {
        int seen = 0;
        for (int tool = 0; tool < TOOLS; tool++) {
            if (borrowers[tool] != NONE && lentUpTo[tool] < currentDay) {
                if (seen == k) {
                    return tool;
                }
                seen++;
            }
        }
        return NONE;
    }

    private static boolean isWithin(long value, long last) {
        return value >= 0 && value <= last;
    }

    private static boolean isKind(int kind) {
        return isWithin(kind, KINDS - 1);
    }

    private static boolean isProduct(int product) {
        return isWithin(product, PRODUCTS - 1);
    }

    private static boolean isPerson(int person) {
        return isWithin(person, PERSONS - 1);
    }

    private static boolean isTool(int tool) {
        return isWithin(tool, TOOLS - 1);
    }

    private static boolean hasMember(int set, int member) {
        return (set >> member & 1) == 1;
    }

    private boolean isDayFromToday(int day) {
        return day >= currentDay && day <= LAST_DAY;
    }

    private Part partAt(int number) {
        return number >= 0 && number < parts.size() ? parts.get(number) : null;
    }

    private Ask askAt(int number) {
        return number >= 0 && number < asks.size() ? asks.get(number) : null;
    }

    /** What a pair is worth, NONE when the two are no pair now. */
    private long pairWorth(Part part, Ask ask) {
        if (!ask.open || !fitting[part.kind * PRODUCTS + ask.product]) {
            return NONE;
        }
        long over = ask.cents - prices.at(part.age);
        return over >= 0 && part.isFreeFor(ask.number, currentDay) ? over : NONE;
    }

    private int rankOf(Ask ask) {
        int rank = 0;
        for (int other = 0; other < asks.size(); other++) {
            if (asks.get(other).standsBefore(ask)) {
                rank++;
            }
        }
        return rank;
    }

    private void recallOne(int number, Part part) {
        if (part.state != SOLD) {
            part.state = RECALLED;
            return;
        }
        // The person is written down here: the part may come back and be sold anew before it is told.
        toldAsSold[toldCount] = 10 * number + part.person;
        toldCount++;
    }

    /** From which age on a part costs how much, by rising ages. */
    private static final class PriceRows {
        private final int[] ages = new int[MAX_ROWS];
        private final long[] cents = new long[MAX_ROWS];
        private int count = 0;

        boolean append(int age, long price) {
            if (count >= MAX_ROWS || (count > 0 && age <= ages[count - 1])) {
                return false;
            }
            ages[count] = age;
            cents[count] = price;
            count++;
            return true;
        }

        long at(int age) {
            for (int i = count - 1; i >= 0; i--) {
                if (ages[i] <= age) {
                    return cents[i];
                }
            }
            return 0;
        }
    }

    private static final class Part {
        final int kind;
        final int age;
        final long serial;
        int state = FREE;
        /** The last day of the hold, or the day of the sale. */
        int day = 0;
        int holder = NONE;
        int person = NONE;

        Part(int kind, int age, long serial) {
            this.kind = kind;
            this.age = age;
            this.serial = serial;
        }

        /** A hold that has ended is left in the fields: today never falls, so it stays ended. */
        int stateOn(int today) {
            return state == HELD && day < today ? FREE : state;
        }

        boolean isFreeFor(int ask, int today) {
            int now = stateOn(today);
            return now == FREE || (now == HELD && holder == ask);
        }

        void holdFor(int ask, int lastDay) {
            state = HELD;
            holder = ask;
            day = lastDay;
        }

        void sellTo(int buyer, int today) {
            state = SOLD;
            person = buyer;
            day = today;
        }
    }

    private static final class Ask {
        final int number;
        final int product;
        final long cents;
        final long minute;
        boolean open = true;

        Ask(int number, int product, long cents, long minute) {
            this.number = number;
            this.product = product;
            this.cents = cents;
            this.minute = minute;
        }

        boolean standsBefore(Ask other) {
            return minute < other.minute || (minute == other.minute && number < other.number);
        }
    }

    private static final class Job {
        final int[] needs = new int[KINDS];
    }

    /**
     * The best match that was found, and what each part and ask added to it then.
     *
     * A match is weighed by ONE number, so that the greatest worth and the first of equal matches are found
     * together: its worth times UNIT, and below that a digit to the base 9 for each ask, that of the first ask
     * highest: 0 for none, 8 for part 0, down to 1 for part 7. Each pair adds its own share to that number.
     */
    private static final class Matching {
        private static final long BASE = 9;
        /** BASE to the power of MAX_ASKS: above all digits together. */
        private static final long UNIT = 43046721L;
        /** A set has parts or asks as its members, 8 of either at most. */
        private static final int MAX_MEMBERS = 8;

        private final long[] shares = new long[MAX_ASKS * MAX_PARTS];
        private final long[] best = new long[1 << MAX_MEMBERS];
        private final int[] optionBits = new int[MAX_MEMBERS];
        private final long[] optionShares = new long[MAX_MEMBERS];
        private int optionCount = 0;
        private final int[] askByRank = new int[MAX_ASKS];
        private final int[] given = new int[MAX_ASKS];
        private final long[] partGains = new long[MAX_PARTS];
        private final long[] askGains = new long[MAX_ASKS];
        private int partCount = 0;
        private int askCount = 0;
        private int pairCount = 0;
        long total = NONE;

        void begin(int partsNow, int asksNow) {
            partCount = partsNow;
            askCount = asksNow;
        }

        void stand(int ask, int rank) {
            askByRank[rank] = ask;
        }

        /** Takes the worth of a part for an ask, NONE when they are no pair. */
        void offer(int ask, int part, long worth) {
            shares[ask * MAX_PARTS + part] = worth;
        }

        int solve() {
            turnWorthsIntoShares();
            weighSets(askCount, MAX_PARTS, partCount, 1);
            int all = (1 << partCount) - 1;
            total = best[all] / UNIT;
            readGiven(best[all] % UNIT);
            readGains(partGains, partCount);
            weighSets(partCount, 1, askCount, MAX_PARTS);
            readGains(askGains, askCount);
            return pairCount;
        }

        int partFor(int ask) {
            return ask >= 0 && ask < askCount ? given[ask] : NONE;
        }

        long gainOfPart(int part) {
            return part >= 0 && part < partCount ? partGains[part] : NONE;
        }

        long gainOfAsk(int ask) {
            return ask >= 0 && ask < askCount ? askGains[ask] : NONE;
        }

        private void turnWorthsIntoShares() {
            long place = 1;
            for (int rank = askCount - 1; rank >= 0; rank--) {
                int first = askByRank[rank] * MAX_PARTS;
                for (int part = 0; part < partCount; part++) {
                    long worth = shares[first + part];
                    if (worth != NONE) {
                        shares[first + part] = worth * UNIT + (MAX_PARTS - part) * place;
                    }
                }
                place *= BASE;
            }
        }

        /**
         * Afterwards best[set] is the greatest number of a match of all rows with the members of a set alone.
         * Rows are asks and members parts, or the other way round: the steps say where their shares stand.
         */
        private void weighSets(int rows, int rowStep, int members, int memberStep) {
            int sets = 1 << members;
            for (int set = 0; set < sets; set++) {
                best[set] = 0;
            }
            for (int row = 0; row < rows; row++) {
                collectOptions(row * rowStep, members, memberStep);
                if (optionCount > 0) {
                    addRow(sets);
                }
            }
        }

        private void collectOptions(int first, int members, int memberStep) {
            optionCount = 0;
            for (int member = 0; member < members; member++) {
                long share = shares[first + member * memberStep];
                if (share != NONE) {
                    optionBits[optionCount] = 1 << member;
                    optionShares[optionCount] = share;
                    optionCount++;
                }
            }
        }

        private void addRow(int sets) {
            // From the greatest set down: the lesser sets that a set looks at do not have this row yet.
            for (int set = sets - 1; set > 0; set--) {
                long most = best[set];
                for (int i = 0; i < optionCount; i++) {
                    int bit = optionBits[i];
                    if ((set & bit) != 0) {
                        most = Math.max(most, best[set ^ bit] + optionShares[i]);
                    }
                }
                best[set] = most;
            }
        }

        private void readGiven(long digits) {
            long rest = digits;
            pairCount = 0;
            for (int rank = askCount - 1; rank >= 0; rank--) {
                int digit = (int) (rest % BASE);
                rest /= BASE;
                given[askByRank[rank]] = digit == 0 ? NONE : MAX_PARTS - digit;
                pairCount += digit == 0 ? 0 : 1;
            }
        }

        private void readGains(long[] gains, int members) {
            int all = (1 << members) - 1;
            for (int member = 0; member < members; member++) {
                gains[member] = total - best[all ^ (1 << member)] / UNIT;
            }
        }
    }

    /** The plan that was found, and the prices of the free parts that it was found with. */
    private static final class RepairPlan {
        private final long[][] freePrices = new long[KINDS][MAX_PARTS];
        private final int[] freeCounts = new int[KINDS];
        long total = NONE;
        /** The set of the plan's jobs: the sum of 2^j for its jobs j. */
        int chosen = 0;

        void begin() {
            for (int kind = 0; kind < KINDS; kind++) {
                freeCounts[kind] = 0;
            }
        }

        /** Takes one more free part; the prices of a kind are kept rising. */
        void stock(int kind, long price) {
            long[] row = freePrices[kind];
            int at = freeCounts[kind];
            while (at > 0 && row[at - 1] > price) {
                row[at] = row[at - 1];
                at--;
            }
            row[at] = price;
            freeCounts[kind]++;
        }

        int choose(ArrayList<Job> jobs) {
            chosen = 0;
            total = 0;
            int sets = 1 << jobs.size();
            // Sets come by rising sums of 2^j, so only a truly better one takes the place of an earlier one.
            for (int set = 1; set < sets; set++) {
                int more = Integer.bitCount(set) - Integer.bitCount(chosen);
                long cost = more < 0 ? NONE : costOfSet(set, jobs);
                if (cost != NONE && (more > 0 || cost < total)) {
                    chosen = set;
                    total = cost;
                }
            }
            return Integer.bitCount(chosen);
        }

        /** NONE when the jobs of the set can not be done together. */
        private long costOfSet(int set, ArrayList<Job> jobs) {
            long sum = 0;
            for (int kind = 0; kind < KINDS; kind++) {
                int needed = neededOf(kind, set, jobs);
                if (needed > freeCounts[kind]) {
                    return NONE;
                }
                for (int i = 0; i < needed; i++) {
                    sum += freePrices[kind][i];
                }
            }
            return sum;
        }

        private static int neededOf(int kind, int set, ArrayList<Job> jobs) {
            int needed = 0;
            for (int job = 0; job < jobs.size(); job++) {
                if (hasMember(set, job)) {
                    needed += jobs.get(job).needs[kind];
                }
            }
            return needed;
        }
    }
}
