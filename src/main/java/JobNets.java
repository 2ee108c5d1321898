import java.util.Arrays;

/** Nets of jobs that start when their time came and all that they need is so. */
public final class JobNets {
    public static final int NONE = -1;

    private static final int MAX_TEXT = 2000;
    private static final int MAX_JOBS = 26;
    private static final int MAX_NEEDS = 20;
    private static final int MAX_DIGITS = 6;
    private static final int MAX_CALENDARS = 20;
    private static final int MAX_HOLIDAYS = 100;
    private static final int MAX_DAY = 1000000;
    private static final int MAX_TIME = 1000000000;
    private static final int DAYS_LOOKED_AT = 400;
    // Past its first start a job starts again only after a call that ended it,
    // and an object is used for at most 512 calls.
    private static final int MAX_STARTS = MAX_JOBS + 512;

    private static final int WEEK = 7;
    private static final int WORK_WEEK = 5;
    private static final int MONTH = 30;

    private static final int RULE_EACH_WEEK = 0;
    private static final int RULE_NTH_WORK_DAY = 1;
    private static final int RULE_LAST_IN_MONTH = 2;
    private static final int RULE_WORK_DAYS_BUT = 3;

    private static final int IF_ENDED = 0;
    private static final int IF_FAILED = 1;
    private static final int IF_EITHER = 2;

    private static final int OUT = 0;
    private static final int WAITS = 1;
    private static final int RUNS = 2;
    private static final int ENDED = 3;
    private static final int FAILED = 4;

    private static final int ONLY_TIME = 0;
    private static final int HAS_ENDED = 1;
    private static final int HAS_FAILED = 2;

    // The four numbers of a job, in the order of the text.
    private static final int CALENDAR = 0;
    private static final int PRIORITY = 1;
    private static final int START = 2;
    private static final int ESTIMATE = 3;
    private static final int NUMBERS = 4;

    private final Calendars calendars = new Calendars();
    private final TextReader reader = new TextReader();
    private final Plan current = new Plan();
    private final KeptTimes kept = new KeptTimes();
    private final Way latestRing = new Way();
    private final RingFinder ringFinder = new RingFinder();
    private final LongestWay longest = new LongestWay();
    private Net net = new Net();
    // A text is read into this one, so that a faulty text leaves net alone.
    private Net spare = new Net();

    public JobNets() {
    }

    public void sign(int c) {
        reader.append(c);
    }

    public int read() {
        boolean right = reader.parse(spare);
        int place = reader.place();
        reader.forget();
        if (!right || ringFinder.findFirst(spare, latestRing)) {
            return -1 - place;
        }
        Net old = net;
        net = spare;
        spare = old;
        current.drop();
        kept.forget();
        return net.jobs;
    }

    public int calendar(int rule, int a) {
        return calendars.make(rule, a);
    }

    public int holiday(long day) {
        if (!isDay(day)) {
            return NONE;
        }
        return calendars.turnHoliday((int) day);
    }

    public int needs(int job, int other, int condition) {
        if (!net.has(job) || !net.has(other) || condition < IF_ENDED || condition > IF_EITHER) {
            return NONE;
        }
        if (net.needCounts[job] >= MAX_NEEDS) {
            return NONE;
        }
        if (net.closesRing(job, other)) {
            ringFinder.find(net, other, job, latestRing);
            return 0;
        }
        net.addNeed(job, other, condition);
        return 1;
    }

    public long next(int calendar, long day) {
        if (!isDay(day)) {
            return NONE;
        }
        return calendars.firstDay(calendar, (int) day);
    }

    public int plan(long day) {
        if (!isDay(day)) {
            return NONE;
        }
        current.make(net, calendars, (int) day);
        current.startAll(net);
        return current.jobsIn(net);
    }

    public int event(int job, int kind, int code, long t) {
        if (kind < ONLY_TIME || kind > HAS_FAILED || t < current.time || t > MAX_TIME) {
            return NONE;
        }
        if (kind != ONLY_TIME && !isIn(job, RUNS)) {
            return NONE;
        }
        current.time = (int) t;
        if (kind == HAS_ENDED) {
            current.states[job] = ENDED;
            if (code == 0) {
                kept.add(job, current.time - current.startTimes[job]);
            }
        } else if (kind == HAS_FAILED) {
            current.states[job] = FAILED;
        }
        return current.startAll(net);
    }

    public int started(int i, int what) {
        if (i < 0 || i >= current.starts) {
            return NONE;
        }
        switch (what) {
            case 0:
                return current.loggedJobs[i];
            case 1:
                return current.loggedTimes[i];
            default:
                return NONE;
        }
    }

    public int rerun(int job) {
        if (!net.has(job)) {
            return NONE;
        }
        if (!isIn(job, ENDED) && !isIn(job, FAILED)) {
            return 0;
        }
        if (current.anyRunsBehind(net, job)) {
            return 0;
        }
        int again = current.waitAgain(net, job);
        current.startAll(net);
        return again;
    }

    public int ring(int i) {
        return latestRing.jobAt(i);
    }

    public int critical(int i) {
        longest.find(net, current.states);
        return longest.way.jobAt(i);
    }

    public long mean(int job, int side) throws ArithmeticException {
        if (!net.has(job) || side < 0 || side > 1) {
            return NONE;
        }
        int times = kept.counts[job];
        if (times <= 0) {
            throw new ArithmeticException("no time was kept");
        }
        return side == 0 ? kept.sums[job] / times : kept.sums[job] % times;
    }

    public int late(long t, int i) {
        int before = 0;
        for (int job = 1; job <= net.jobs; job++) {
            if (isLate(job, t)) {
                if (before == i) {
                    return job;
                }
                before++;
            }
        }
        return 0;
    }

    public int state(int job) {
        return net.has(job) ? current.states[job] : NONE;
    }

    public int count(int what) {
        switch (what) {
            case 0:
                return net.jobs;
            case 1:
                return calendars.made;
            case 2:
                return calendars.holidayCount;
            case 3:
                return current.starts;
            case 4:
                return current.jobsIn(net);
            case 5:
                return current.time;
            case 6:
                return latestRing.length;
            case 7:
                return current.running(net);
            default:
                return NONE;
        }
    }

    private static boolean isDay(long day) {
        return day >= 0 && day <= MAX_DAY;
    }

    private boolean isIn(int job, int wanted) {
        return net.has(job) && current.states[job] == wanted;
    }

    private boolean isLate(int job, long t) {
        int stateNow = current.states[job];
        if (stateNow != RUNS && stateNow != WAITS) {
            return false;
        }
        long from = stateNow == RUNS ? current.startTimes[job] : net.numbers[job][START];
        // Not t - from: for a far t that would wrap around.
        return t > from + kept.usualTime(job, net.numbers[job][ESTIMATE]);
    }

    /** The calendars' rules, and the holidays that shift work days. */
    private static final class Calendars {
        private final int[] rules = new int[MAX_CALENDARS];
        private final int[] places = new int[MAX_CALENDARS];
        private final int[] holidays = new int[MAX_HOLIDAYS];
        // Calendar 0 is there from the beginning.
        private int made = 1;
        private int holidayCount = 0;

        int make(int rule, int a) {
            if (!isRule(rule, a) || made >= MAX_CALENDARS) {
                return NONE;
            }
            rules[made] = rule;
            places[made] = a;
            made++;
            return made - 1;
        }

        private static boolean isRule(int rule, int a) {
            switch (rule) {
                case RULE_EACH_WEEK:
                case RULE_LAST_IN_MONTH:
                    return a >= 0 && a < WEEK;
                case RULE_NTH_WORK_DAY:
                case RULE_WORK_DAYS_BUT:
                    return a >= 1 && a <= MONTH;
                default:
                    return false;
            }
        }

        // The document's NONE at 100 holidays has no exception for a day that is one of them.
        int turnHoliday(int day) {
            if (holidayCount >= MAX_HOLIDAYS) {
                return NONE;
            }
            int at = holidayPlace(day);
            if (at == NONE) {
                holidays[holidayCount] = day;
                holidayCount++;
            } else {
                holidayCount--;
                holidays[at] = holidays[holidayCount];
            }
            return holidayCount;
        }

        private int holidayPlace(int day) {
            for (int i = 0; i < holidayCount; i++) {
                if (holidays[i] == day) {
                    return i;
                }
            }
            return NONE;
        }

        int firstDay(int calendar, int day) {
            for (int d = day; d <= day + DAYS_LOOKED_AT; d++) {
                if (hasDay(calendar, d)) {
                    return d;
                }
            }
            return NONE;
        }

        boolean hasDay(int calendar, int day) {
            if (calendar < 0 || calendar >= made) {
                return false;
            }
            if (calendar == 0) {
                return true;
            }
            int a = places[calendar];
            switch (rules[calendar]) {
                case RULE_EACH_WEEK:
                    return day % WEEK == a;
                case RULE_NTH_WORK_DAY:
                    return isWorkDay(day) && workDaysOfMonthTill(day) == a;
                case RULE_LAST_IN_MONTH:
                    return day % WEEK == a && day % MONTH + WEEK >= MONTH;
                default:
                    return isWorkDay(day) && day % MONTH + 1 != a;
            }
        }

        private static boolean isInWorkWeek(int day) {
            return day % WEEK < WORK_WEEK;
        }

        private boolean isWorkDay(int day) {
            return isInWorkWeek(day) && holidayPlace(day) == NONE;
        }

        // Holidays are taken off in one go: asking isWorkDay for each day would
        // look through all of them up to thirty times.
        private int workDaysOfMonthTill(int day) {
            int first = day - day % MONTH;
            int found = 0;
            for (int d = first; d <= day; d++) {
                if (isInWorkWeek(d)) {
                    found++;
                }
            }
            for (int i = 0; i < holidayCount; i++) {
                int off = holidays[i];
                if (off >= first && off <= day && isInWorkWeek(off)) {
                    found--;
                }
            }
            return found;
        }
    }

    /** The jobs, numbered from 1 on, with what each needs. */
    private static final class Net {
        private final int[][] numbers = new int[MAX_JOBS + 1][NUMBERS];
        private final int[] needCounts = new int[MAX_JOBS + 1];
        private final int[][] needed = new int[MAX_JOBS + 1][MAX_NEEDS];
        private final int[][] conditions = new int[MAX_JOBS + 1][MAX_NEEDS];
        // For each job the set, by bits, of all that it needs at any depth.
        private final int[] allNeeded = new int[MAX_JOBS + 1];
        private int jobs = 0;

        void clear() {
            jobs = 0;
            Arrays.fill(needCounts, 0);
            Arrays.fill(allNeeded, 0);
        }

        boolean has(int job) {
            return job >= 1 && job <= jobs;
        }

        boolean needsAtAnyDepth(int job, int other) {
            return (allNeeded[job] >> other & 1) != 0;
        }

        boolean closesRing(int job, int other) {
            return job == other || needsAtAnyDepth(other, job);
        }

        void addNeed(int job, int other, int condition) {
            int k = needCounts[job];
            if (k >= MAX_NEEDS) {
                return;
            }
            needed[job][k] = other;
            conditions[job][k] = condition;
            needCounts[job] = k + 1;
            int gained = allNeeded[other] | 1 << other;
            for (int j = 1; j <= jobs; j++) {
                if (j == job || needsAtAnyDepth(j, job)) {
                    allNeeded[j] |= gained;
                }
            }
        }
    }

    /** Keeps a text's characters and reads them; behind a fault, at stands on it. */
    private static final class TextReader {
        private final int[] text = new int[MAX_TEXT];
        private final int[] jobOfLetter = new int[MAX_JOBS];
        // Needs wait here till all names are known: any job of the text may be needed.
        private final int[] owners = new int[MAX_JOBS * MAX_NEEDS];
        private final int[] namePlaces = new int[MAX_JOBS * MAX_NEEDS];
        private final int[] conditions = new int[MAX_JOBS * MAX_NEEDS];
        private int pending = 0;
        private int length = 0;
        private int at = 0;
        private int number = 0;

        void append(int c) {
            if (length < MAX_TEXT) {
                text[length] = c;
                length++;
            }
        }

        void forget() {
            length = 0;
        }

        int place() {
            return at;
        }

        boolean parse(Net net) {
            net.clear();
            Arrays.fill(jobOfLetter, 0);
            pending = 0;
            at = 0;
            for (int job = 1; job <= MAX_JOBS; job++) {
                skipBlanks();
                if (at >= length) {
                    break;
                }
                if (!parseJob(net, job)) {
                    return false;
                }
            }
            skipBlanks();
            // Behind 26 jobs every name is there already, so whatever comes is the fault.
            return at >= length && addNeeds(net);
        }

        private boolean parseJob(Net net, int job) {
            int letter = letterHere();
            if (letter == NONE || jobOfLetter[letter] != 0) {
                return false;
            }
            jobOfLetter[letter] = job;
            net.jobs = job;
            at++;
            for (int i = 0; i < NUMBERS; i++) {
                skipBlanks();
                if (!parseNumber()) {
                    return false;
                }
                net.numbers[job][i] = number;
            }
            return parseNeeds(job);
        }

        private boolean parseNumber() {
            number = 0;
            int digits = 0;
            while (at < length && text[at] >= '0' && text[at] <= '9') {
                if (digits == MAX_DIGITS) {
                    return false;
                }
                number = number * 10 + (text[at] - '0');
                digits++;
                at++;
            }
            return digits > 0;
        }

        private boolean parseNeeds(int job) {
            for (int k = 0; k <= MAX_NEEDS; k++) {
                skipBlanks();
                if (isHere(';')) {
                    at++;
                    return true;
                }
                if (!isHere('-') || k == MAX_NEEDS) {
                    return false;
                }
                at++;
                if (!parseNeed(job)) {
                    return false;
                }
            }
            return false;
        }

        private boolean parseNeed(int job) {
            skipBlanks();
            if (letterHere() == NONE || pending >= owners.length) {
                return false;
            }
            owners[pending] = job;
            namePlaces[pending] = at;
            at++;
            skipBlanks();
            conditions[pending] = isHere('!') ? IF_FAILED : isHere('?') ? IF_EITHER : IF_ENDED;
            if (conditions[pending] != IF_ENDED) {
                at++;
            }
            pending++;
            return true;
        }

        private boolean addNeeds(Net net) {
            for (int i = 0; i < pending; i++) {
                int other = jobOfLetter[text[namePlaces[i]] - 'a'];
                if (other == 0) {
                    at = namePlaces[i];
                    return false;
                }
                net.addNeed(owners[i], other, conditions[i]);
            }
            return true;
        }

        private boolean isHere(int c) {
            return at < length && text[at] == c;
        }

        private int letterHere() {
            if (at >= length || text[at] < 'a' || text[at] > 'z') {
                return NONE;
            }
            return text[at] - 'a';
        }

        private void skipBlanks() {
            while (at < length && (text[at] == ' ' || text[at] == '\n')) {
                at++;
            }
        }
    }

    /** Jobs one behind another. */
    private static final class Way {
        private final int[] row = new int[MAX_JOBS];
        private int length = 0;

        int jobAt(int i) {
            return i >= 0 && i < length ? row[i] : 0;
        }

        /** The way that ends in last, by the one before each; 0 is before the first. */
        void trace(int[] before, int last) {
            length = 0;
            for (int job = last; job > 0 && length < MAX_JOBS; job = before[job]) {
                length++;
            }
            int job = last;
            for (int i = length - 1; i >= 0; i--) {
                row[i] = job;
                job = before[job];
            }
        }
    }

    /** Looks level by level for the shortest way round. */
    private static final class RingFinder {
        private final int[] queue = new int[MAX_JOBS];
        private final int[] before = new int[MAX_JOBS + 1];

        /** Whether there is a ring; that of the first need that is on one goes to ring. */
        boolean findFirst(Net net, Way ring) {
            for (int job = 1; job <= net.jobs; job++) {
                for (int k = 0; k < net.needCounts[job]; k++) {
                    int other = net.needed[job][k];
                    if (net.closesRing(job, other)) {
                        find(net, other, job, ring);
                        return true;
                    }
                }
            }
            return false;
        }

        /** A way must be there: net.closesRing(to, from) told so. */
        void find(Net net, int from, int to, Way ring) {
            Arrays.fill(before, NONE);
            before[from] = 0;
            queue[0] = from;
            int queued = 1;
            for (int i = 0; i < MAX_JOBS && i < queued && before[to] == NONE; i++) {
                queued = queueNeeded(net, queue[i], queued);
            }
            ring.trace(before, to);
        }

        private int queueNeeded(Net net, int job, int queuedBefore) {
            int queued = queuedBefore;
            for (int k = 0; k < net.needCounts[job]; k++) {
                int other = net.needed[job][k];
                if (before[other] == NONE && queued < MAX_JOBS) {
                    before[other] = job;
                    queue[queued] = other;
                    queued++;
                }
            }
            return queued;
        }
    }

    /** The longest way through the jobs of a plan, by estimates. */
    private static final class LongestWay {
        private final int[] sums = new int[MAX_JOBS + 1];
        private final int[] before = new int[MAX_JOBS + 1];
        private final Way way = new Way();

        void find(Net net, int[] states) {
            // A job needs more jobs, at all depths, than each that it needs:
            // by that number, those come first.
            for (int behind = 0; behind < MAX_JOBS; behind++) {
                for (int job = 1; job <= net.jobs; job++) {
                    if (states[job] != OUT && Integer.bitCount(net.allNeeded[job]) == behind) {
                        measure(net, states, job);
                    }
                }
            }
            way.trace(before, longestEnd(net, states));
        }

        private void measure(Net net, int[] states, int job) {
            int best = 0;
            int bestJob = 0;
            for (int k = 0; k < net.needCounts[job]; k++) {
                int other = net.needed[job][k];
                if (states[other] == OUT) {
                    continue;
                }
                // A sum of 0 never gets in: of equal ways the one with nothing before
                // is the lesser, as 0 is the answer where there is no job.
                if (sums[other] > best || sums[other] == best && other < bestJob) {
                    best = sums[other];
                    bestJob = other;
                }
            }
            sums[job] = best + net.numbers[job][ESTIMATE];
            before[job] = bestJob;
        }

        private int longestEnd(Net net, int[] states) {
            int end = 0;
            for (int job = 1; job <= net.jobs; job++) {
                if (states[job] != OUT && (end == 0 || sums[job] > sums[end])) {
                    end = job;
                }
            }
            return end;
        }
    }

    /** The times that ended jobs took. */
    private static final class KeptTimes {
        private final long[] sums = new long[MAX_JOBS + 1];
        private final int[] counts = new int[MAX_JOBS + 1];

        void forget() {
            Arrays.fill(sums, 0);
            Arrays.fill(counts, 0);
        }

        void add(int job, int time) {
            sums[job] += time;
            counts[job]++;
        }

        // The whole part is enough: a whole time is above a mean just when it is above that.
        long usualTime(int job, int estimate) {
            return counts[job] > 0 ? sums[job] / counts[job] : estimate;
        }
    }

    /** The jobs' states on a day, the time, and the starts that were written down. */
    private static final class Plan {
        private final int[] states = new int[MAX_JOBS + 1];
        private final int[] startTimes = new int[MAX_JOBS + 1];
        private final int[] loggedJobs = new int[MAX_STARTS];
        private final int[] loggedTimes = new int[MAX_STARTS];
        private int starts = 0;
        private int time = 0;

        /** No plan any more; the time stays. */
        void drop() {
            Arrays.fill(states, OUT);
            starts = 0;
        }

        void make(Net net, Calendars calendars, int day) {
            drop();
            time = 0;
            for (int job = 1; job <= net.jobs; job++) {
                if (calendars.hasDay(net.numbers[job][CALENDAR], day)) {
                    states[job] = WAITS;
                }
            }
        }

        int jobsIn(Net net) {
            int found = 0;
            for (int job = 1; job <= net.jobs; job++) {
                if (states[job] != OUT) {
                    found++;
                }
            }
            return found;
        }

        int running(Net net) {
            int found = 0;
            for (int job = 1; job <= net.jobs; job++) {
                if (states[job] == RUNS) {
                    found++;
                }
            }
            return found;
        }

        int startAll(Net net) {
            int begun = 0;
            for (int i = 0; i < MAX_JOBS; i++) {
                int job = firstToStart(net);
                if (job == 0) {
                    break;
                }
                start(job);
                begun++;
            }
            return begun;
        }

        private int firstToStart(Net net) {
            int first = 0;
            for (int job = 1; job <= net.jobs; job++) {
                if (canStart(net, job)
                        && (first == 0 || net.numbers[job][PRIORITY] > net.numbers[first][PRIORITY])) {
                    first = job;
                }
            }
            return first;
        }

        private boolean canStart(Net net, int job) {
            if (states[job] != WAITS || time < net.numbers[job][START]) {
                return false;
            }
            for (int k = 0; k < net.needCounts[job]; k++) {
                if (!isSo(states[net.needed[job][k]], net.conditions[job][k])) {
                    return false;
                }
            }
            return true;
        }

        private static boolean isSo(int otherState, int condition) {
            switch (otherState) {
                case OUT:
                    return true;
                case ENDED:
                    return condition != IF_FAILED;
                case FAILED:
                    return condition != IF_ENDED;
                default:
                    return false;
            }
        }

        private void start(int job) {
            states[job] = RUNS;
            startTimes[job] = time;
            if (starts < MAX_STARTS) {
                loggedJobs[starts] = job;
                loggedTimes[starts] = time;
                starts++;
            }
        }

        boolean anyRunsBehind(Net net, int job) {
            for (int j = 1; j <= net.jobs; j++) {
                if (states[j] == RUNS && net.needsAtAnyDepth(j, job)) {
                    return true;
                }
            }
            return false;
        }

        /** None of those behind the job may run. */
        int waitAgain(Net net, int job) {
            int again = 0;
            for (int j = 1; j <= net.jobs; j++) {
                boolean done = states[j] == ENDED || states[j] == FAILED;
                if (done && (j == job || net.needsAtAnyDepth(j, job))) {
                    states[j] = WAITS;
                    again++;
                }
            }
            return again;
        }
    }
}
