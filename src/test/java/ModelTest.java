import java.util.ArrayList;
import java.util.Arrays;
import java.util.Collections;
import java.util.HashSet;
import java.util.List;
import java.util.Set;
import java.util.TreeSet;

/** Made-up runs of calls, each answer against a second program that is plain and slow. */
public final class ModelTest {
    private static final int RUNS = 3000;
    private static final int CALLS = 512;
    private static final long ARITHMETIC = Long.MIN_VALUE;

    private static final class Need {
        final int other;
        final int condition;

        Need(int other, int condition) {
            this.other = other;
            this.condition = condition;
        }
    }

    private static final class Job {
        char name;
        final int[] numbers = new int[4];
        final List<Need> needs = new ArrayList<>();
        final List<Long> kept = new ArrayList<>();
        int state = 0;
        long since = 0;
    }

    /** A text that can't be read: where. */
    private static final class Fault extends Exception {
        private static final long serialVersionUID = 1L;
        final int place;

        Fault(int place) {
            this.place = place;
        }
    }

    private static final class Model {
        List<Integer> text = new ArrayList<>();
        List<Job> jobs = new ArrayList<>();
        final List<int[]> calendars = new ArrayList<>();
        final Set<Long> holidays = new HashSet<>();
        final List<long[]> starts = new ArrayList<>();
        List<Integer> ring = new ArrayList<>();
        long time = 0;

        Job job(int number) {
            return number < 1 || number > jobs.size() ? null : jobs.get(number - 1);
        }

        void sign(int c) {
            if (text.size() < 2000) {
                text.add(c);
            }
        }

        long read() {
            List<Integer> whole = text;
            text = new ArrayList<>();
            try {
                List<Job> found = parse(whole);
                List<Integer> round = firstRing(found);
                if (!round.isEmpty()) {
                    ring = round;
                    return -1 - whole.size();
                }
                jobs = found;
                starts.clear();
                return jobs.size();
            } catch (Fault f) {
                return -1 - f.place;
            }
        }

        /** Step by step: 0 a name, 1 .. 8 a number's begin or inside, 9 needs, 10 a need's name, 11 behind that. */
        private static List<Job> parse(List<Integer> whole) throws Fault {
            List<Job> found = new ArrayList<>();
            List<int[]> open = new ArrayList<>();
            Job job = null;
            int step = 0;
            int digits = 0;
            for (int at = 0; at < whole.size(); at++) {
                int c = whole.get(at);
                boolean blank = c == 32 || c == 10;
                boolean digit = c >= 48 && c <= 57;
                boolean small = c >= 97 && c <= 122;
                if (step >= 2 && step <= 8 && step % 2 == 0 && !digit) {
                    step++;
                }
                if (blank) {
                    continue;
                }
                if (step == 0 && small && !named(found, c)) {
                    job = new Job();
                    job.name = (char) c;
                    found.add(job);
                    step = 1;
                } else if (step >= 1 && step <= 8 && digit) {
                    digits = step % 2 == 1 ? 1 : digits + 1;
                    step += step % 2;
                    if (digits > 6) {
                        throw new Fault(at);
                    }
                    job.numbers[step / 2 - 1] = job.numbers[step / 2 - 1] * 10 + c - 48;
                } else if ((step == 9 || step == 11) && c == ';') {
                    step = 0;
                } else if ((step == 9 || step == 11) && c == '-' && job.needs.size() < 20) {
                    step = 10;
                } else if (step == 10 && small) {
                    open.add(new int[] {found.size(), job.needs.size(), c, at});
                    job.needs.add(new Need(0, 0));
                    step = 11;
                } else if (step == 11 && (c == '!' || c == '?')) {
                    job.needs.set(job.needs.size() - 1, new Need(0, c == '!' ? 1 : 2));
                    step = 9;
                } else {
                    throw new Fault(at);
                }
            }
            if (step != 0) {
                throw new Fault(whole.size());
            }
            for (int[] o : open) {
                int other = 0;
                for (int j = 0; j < found.size(); j++) {
                    other = found.get(j).name == o[2] ? j + 1 : other;
                }
                if (other == 0) {
                    throw new Fault(o[3]);
                }
                List<Need> needs = found.get(o[0] - 1).needs;
                needs.set(o[1], new Need(other, needs.get(o[1]).condition));
            }
            return found;
        }

        private static boolean named(List<Job> found, int c) {
            for (Job j : found) {
                if (j.name == c) {
                    return true;
                }
            }
            return false;
        }

        private static List<Integer> firstRing(List<Job> net) {
            for (int j = 1; j <= net.size(); j++) {
                for (Need n : net.get(j - 1).needs) {
                    List<Integer> round = shortest(net, n.other, j);
                    if (!round.isEmpty()) {
                        return round;
                    }
                }
            }
            return new ArrayList<>();
        }

        /** All ways of a length, in the order of needs, then those that are one longer. */
        private static List<Integer> shortest(List<Job> net, int from, int to) {
            List<List<Integer>> level = new ArrayList<>();
            level.add(List.of(from));
            for (int length = 1; length <= net.size(); length++) {
                List<List<Integer>> longer = new ArrayList<>();
                for (List<Integer> way : level) {
                    int last = way.get(way.size() - 1);
                    if (last == to) {
                        return way;
                    }
                    for (Need n : net.get(last - 1).needs) {
                        if (!way.contains(n.other)) {
                            List<Integer> more = new ArrayList<>(way);
                            more.add(n.other);
                            longer.add(more);
                        }
                    }
                }
                level = longer;
            }
            return new ArrayList<>();
        }

        long calendar(int rule, int a) {
            boolean so = (rule == 0 || rule == 2) && a >= 0 && a <= 6 || (rule == 1 || rule == 3) && a >= 1 && a <= 30;
            if (!so || calendars.size() == 19) {
                return -1;
            }
            calendars.add(new int[] {rule, a});
            return calendars.size();
        }

        long holiday(long day) {
            if (day < 0 || day > 1000000 || holidays.size() == 100) {
                return -1;
            }
            if (!holidays.remove(day)) {
                holidays.add(day);
            }
            return holidays.size();
        }

        private boolean work(long day) {
            return day % 7 <= 4 && !holidays.contains(day);
        }

        private boolean has(long calendar, long day) {
            if (calendar == 0) {
                return true;
            }
            if (calendar < 0 || calendar > calendars.size()) {
                return false;
            }
            int rule = calendars.get((int) calendar - 1)[0];
            int a = calendars.get((int) calendar - 1)[1];
            List<Long> days = new ArrayList<>();
            long first = day / 30 * 30;
            for (long d = first; d < first + 30; d++) {
                if (rule == 0 || rule == 2 ? d % 7 == a : work(d) && (rule == 1 || d - first + 1 != a)) {
                    days.add(d);
                }
            }
            if (rule == 1) {
                return days.size() >= a && days.get(a - 1) == day;
            }
            if (rule == 2) {
                return days.get(days.size() - 1) == day;
            }
            return days.contains(day);
        }

        long needs(int job, int other, int condition) {
            Job j = job(job);
            if (j == null || job(other) == null || condition < 0 || condition > 2 || j.needs.size() == 20) {
                return -1;
            }
            List<Integer> round = shortest(jobs, other, job);
            if (!round.isEmpty()) {
                ring = round;
                return 0;
            }
            j.needs.add(new Need(other, condition));
            return 1;
        }

        long next(int calendar, long day) {
            if (day < 0 || day > 1000000) {
                return -1;
            }
            for (long d = day; d <= day + 400; d++) {
                if (has(calendar, d)) {
                    return d;
                }
            }
            return -1;
        }

        long plan(long day) {
            if (day < 0 || day > 1000000) {
                return -1;
            }
            time = 0;
            starts.clear();
            for (Job j : jobs) {
                j.state = has(j.numbers[0], day) ? 1 : 0;
            }
            go();
            return inPlan();
        }

        private int inPlan() {
            int n = 0;
            for (Job j : jobs) {
                n += j.state == 0 ? 0 : 1;
            }
            return n;
        }

        private boolean ready(Job j) {
            if (j.state != 1 || j.numbers[2] > time) {
                return false;
            }
            for (Need n : j.needs) {
                int s = job(n.other).state;
                boolean so = s == 0 || s == 3 && n.condition == 0 || s == 4 && n.condition == 1
                    || (s == 3 || s == 4) && n.condition == 2;
                if (!so) {
                    return false;
                }
            }
            return true;
        }

        private long go() {
            List<Integer> all = new ArrayList<>();
            for (int j = 1; j <= jobs.size(); j++) {
                if (ready(job(j))) {
                    all.add(j);
                }
            }
            all.sort((a, b) -> Integer.compare(job(b).numbers[1], job(a).numbers[1]));
            for (int j : all) {
                job(j).state = 2;
                job(j).since = time;
                starts.add(new long[] {j, time});
            }
            return all.size();
        }

        long event(int job, int kind, int code, long t) {
            Job j = job(job);
            if (kind < 0 || kind > 2 || t < time || t > 1000000000 || kind > 0 && (j == null || j.state != 2)) {
                return -1;
            }
            time = t;
            if (kind > 0) {
                j.state = kind + 2;
            }
            if (kind == 1 && code == 0) {
                j.kept.add(t - j.since);
            }
            return go();
        }

        long started(int i, int what) {
            return i < 0 || i >= starts.size() || what < 0 || what > 1 ? -1 : starts.get(i)[what];
        }

        private void behind(int job, Set<Integer> all) {
            for (int j = 1; j <= jobs.size(); j++) {
                for (Need n : job(j).needs) {
                    if (n.other == job && all.add(j)) {
                        behind(j, all);
                    }
                }
            }
        }

        long rerun(int job) {
            if (job(job) == null) {
                return -1;
            }
            Set<Integer> all = new TreeSet<>();
            behind(job, all);
            all.add(job);
            all.removeIf(j -> job(j).state < 2);
            for (int j : all) {
                if (job(j).state == 2) {
                    return 0;
                }
            }
            if (!all.contains(job)) {
                return 0;
            }
            for (int j : all) {
                job(j).state = 1;
            }
            go();
            return all.size();
        }

        private static long at(List<Integer> row, int i) {
            return i < 0 || i >= row.size() ? 0 : row.get(i);
        }

        /** All ways, each from its end back. */
        private void waysBack(List<Integer> way, List<List<Integer>> all) {
            all.add(way);
            for (Need n : job(way.get(way.size() - 1)).needs) {
                if (job(n.other).state != 0) {
                    List<Integer> more = new ArrayList<>(way);
                    more.add(n.other);
                    waysBack(more, all);
                }
            }
        }

        private int sum(List<Integer> way) {
            int s = 0;
            for (int j : way) {
                s += job(j).numbers[3];
            }
            return s;
        }

        private static int compare(List<Integer> a, List<Integer> b) {
            return Arrays.compare(a.toArray(new Integer[0]), b.toArray(new Integer[0]));
        }

        long critical(int i) {
            List<List<Integer>> all = new ArrayList<>();
            for (int j = 1; j <= jobs.size(); j++) {
                if (job(j).state != 0) {
                    waysBack(List.of(j), all);
                }
            }
            if (all.isEmpty()) {
                return 0;
            }
            List<Integer> best = new ArrayList<>(Collections.min(all,
                (a, b) -> sum(a) != sum(b) ? Integer.compare(sum(b), sum(a)) : compare(a, b)));
            Collections.reverse(best);
            return at(best, i);
        }

        private static long total(Job j) {
            long s = 0;
            for (long k : j.kept) {
                s += k;
            }
            return s;
        }

        long mean(int job, int side) {
            Job j = job(job);
            if (j == null || side < 0 || side > 1) {
                return -1;
            }
            if (j.kept.isEmpty()) {
                return ARITHMETIC;
            }
            long whole = total(j) / j.kept.size();
            return side == 0 ? whole : total(j) - whole * j.kept.size();
        }

        long late(long t, int i) {
            List<Integer> all = new ArrayList<>();
            for (int n = 1; n <= jobs.size(); n++) {
                Job j = job(n);
                double usual = j.kept.isEmpty() ? j.numbers[3] : (double) total(j) / j.kept.size();
                double took = (double) t - (j.state == 2 ? j.since : j.numbers[2]);
                if ((j.state == 1 || j.state == 2) && took > usual) {
                    all.add(n);
                }
            }
            return at(all, i);
        }

        long state(int job) {
            return job(job) == null ? -1 : job(job).state;
        }

        long count(int what) {
            int running = 0;
            for (Job j : jobs) {
                running += j.state == 2 ? 1 : 0;
            }
            long[] all = {jobs.size(), calendars.size() + 1, holidays.size(), starts.size(), inPlan(), time,
                ring.size(), running};
            return what < 0 || what >= all.length ? -1 : all[what];
        }
    }

    private long seed;
    private final JobNets nets = new JobNets();
    private final Model model = new Model();
    private final StringBuilder told = new StringBuilder();
    private int calls = 0;
    private boolean right = true;

    private ModelTest(long seed) {
        this.seed = seed;
    }

    private int below(int n) {
        seed = seed * 6364136223846793005L + 1442695040888963407L;
        return (int) ((seed >>> 33) % n);
    }

    private boolean oneIn(int n) {
        return below(n) == 0;
    }

    /** Mostly 0 .. most, now and then just or far outside. */
    private int near(int most) {
        if (!oneIn(25)) {
            return below(most + 1);
        }
        int[] odd = {-1, most + 1, -2, 27, 28, Integer.MAX_VALUE, Integer.MIN_VALUE, 1000000};
        return odd[below(odd.length)];
    }

    private long day() {
        if (!oneIn(20)) {
            return below(oneIn(3) ? 1000 : 62);
        }
        long[] odd = {-1, 1000000, 1000001, Long.MAX_VALUE, Long.MIN_VALUE, 999999, 1L << 32};
        return odd[below(odd.length)];
    }

    private long time() {
        if (!oneIn(30)) {
            return Math.max(0, model.time + below(12) - 1);
        }
        long[] odd = {-1, 1000000000, 1000000001, Long.MAX_VALUE, Long.MIN_VALUE, 1L << 32};
        return odd[oneIn(8) ? 1 : below(odd.length - 1) + (below(2) == 0 ? 0 : 1)];
    }

    private void blanks(StringBuilder s) {
        while (oneIn(8)) {
            s.append(oneIn(2) ? ' ' : '\n');
        }
    }

    private String text() {
        int n = below(7) + 1;
        boolean ringsAllowed = oneIn(4);
        StringBuilder s = new StringBuilder();
        for (int j = 0; j < n; j++) {
            blanks(s);
            s.append((char) ('a' + j));
            blanks(s);
            s.append(oneIn(2) ? 0 : below(5)).append(' ').append(below(4)).append('\n').append(below(8)).append(' ');
            s.append(below(5));
            for (int k = below(4); k > 0 && (ringsAllowed || j > 0); k--) {
                blanks(s);
                s.append('-');
                blanks(s);
                s.append((char) ('a' + below(ringsAllowed ? n : j)));
                blanks(s);
                s.append(new String[] {"", "", "!", "?"}[below(4)]);
            }
            blanks(s);
            s.append(';');
        }
        blanks(s);
        return s.toString();
    }

    private String spoilt(String text) {
        StringBuilder s = new StringBuilder(text);
        int at = below(s.length());
        String signs = "az09 \n-!?;A\t1234567";
        switch (below(4)) {
            case 0:
                s.setLength(at);
                break;
            case 1:
                s.deleteCharAt(at);
                break;
            case 2:
                s.setCharAt(at, signs.charAt(below(signs.length())));
                break;
            default:
                s.insert(at, signs.charAt(below(signs.length())));
                break;
        }
        return s.toString();
    }

    private void check(String call, long got, long want) {
        calls++;
        told.append(call).append(" = ").append(got).append('\n');
        if (got != want && right) {
            right = false;
            System.out.println(told + call + " answered " + got + ", due is " + want);
        }
    }

    private void readText() {
        String text = oneIn(3) ? spoilt(text()) : text();
        for (int i = 0; i < text.length(); i++) {
            nets.sign(text.charAt(i));
            model.sign(text.charAt(i));
            calls++;
        }
        told.append(text).append('\n');
        check("read()", nets.read(), model.read());
    }

    private long meanOf(int job, int side) {
        try {
            return nets.mean(job, side);
        } catch (ArithmeticException e) {
            return ARITHMETIC;
        }
    }

    private int job() {
        return near(Math.max(1, model.jobs.size()));
    }

    private void eventCall() {
        int job = job();
        for (int i = 0; i < 4 && model.state(job) != 2; i++) {
            job = job();
        }
        int kind = near(2);
        int code = oneIn(4) ? below(3) - 1 : 0;
        long t = time();
        check("event(" + job + ", " + kind + ", " + code + ", " + t + ")",
            nets.event(job, kind, code, t), model.event(job, kind, code, t));
    }

    private void changeCall() {
        int a = near(4);
        int b = near(oneIn(2) ? 6 : 30);
        int job = job();
        int other = job();
        int condition = near(2);
        long day = day();
        switch (below(20)) {
            case 0:
                check("calendar(" + a + ", " + b + ")", nets.calendar(a, b), model.calendar(a, b));
                break;
            case 1:
                check("holiday(" + day + ")", nets.holiday(day), model.holiday(day));
                break;
            case 2:
                check("needs(" + job + ", " + other + ", " + condition + ")",
                    nets.needs(job, other, condition), model.needs(job, other, condition));
                break;
            case 3:
                check("plan(" + day + ")", nets.plan(day), model.plan(day));
                break;
            case 4:
                if (oneIn(4)) {
                    readText();
                }
                break;
            case 5:
            case 6:
            case 7:
                check("rerun(" + job + ")", nets.rerun(job), model.rerun(job));
                break;
            default:
                eventCall();
                break;
        }
    }

    private void askCall() {
        int a = near(7);
        int b = near(2);
        int i = near(5);
        int job = job();
        long day = day();
        long t = time();
        switch (below(9)) {
            case 0:
                check("next(" + a + ", " + day + ")", nets.next(a, day), model.next(a, day));
                break;
            case 1:
                check("started(" + a + ", " + b + ")", nets.started(a, b), model.started(a, b));
                break;
            case 2:
                check("ring(" + i + ")", nets.ring(i), model.ring.size() > i && i >= 0 ? model.ring.get(i) : 0);
                break;
            case 3:
                check("critical(" + i + ")", nets.critical(i), model.critical(i));
                break;
            case 4:
                check("mean(" + job + ", " + b + ")", meanOf(job, b), model.mean(job, b));
                break;
            case 5:
                check("late(" + t + ", " + i + ")", nets.late(t, i), model.late(t, i));
                break;
            case 6:
                check("state(" + job + ")", nets.state(job), model.state(job));
                break;
            default:
                check("count(" + a + ")", nets.count(a), model.count(a));
                break;
        }
    }

    private boolean run() {
        if (!oneIn(20)) {
            readText();
        }
        if (!oneIn(20)) {
            check("plan(0)", nets.plan(0), model.plan(0));
        }
        while (right && calls < CALLS - 200) {
            if (oneIn(2)) {
                changeCall();
            } else {
                askCall();
            }
        }
        return right;
    }

    public static void main(String[] args) {
        for (int i = 0; i < RUNS; i++) {
            if (!new ModelTest(i * 7919L + 17).run()) {
                System.out.println("run " + i + " is not as due");
                System.exit(1);
            }
        }
        System.out.println("all " + RUNS + " runs are as due");
    }
}
