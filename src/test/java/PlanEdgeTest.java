/** The sentences on plans and starts ('Terms', promises 1, 8 to 11 and 14 to 17), each with its edges. */
public final class PlanEdgeTest extends Checks {
    private static final int LAST_DAY = 1000000;
    private static final int LAST_TIME = 1000000000;
    private static final long[] NO_DAYS = {-1, LAST_DAY + 1, Long.MIN_VALUE, Long.MAX_VALUE, 1L << 32, -1L << 32};
    private static final int[] NO_JOBS = {0, -1, 4, 26, 27, 28, Integer.MIN_VALUE, Integer.MAX_VALUE};

    private static void newObject() {
        sentence("no jobs, no calendars but 0, no plan; time 0");
        JobNets x = new JobNets();
        same("all", all(x), "0 1 0 0 0 0 0 0 states  starts  means  critical  late  next ring ");
        due("state(1)", x.state(1), JobNets.NONE);
        due("mean(1, 0)", x.mean(1, 0), JobNets.NONE);
        due("rerun(1)", x.rerun(1), JobNets.NONE);
        due("needs(1, 1, 0)", x.needs(1, 1, 0), JobNets.NONE);
        due("started(0, 0)", x.started(0, 0), JobNets.NONE);
        due("event(1, 1, 0, 0)", x.event(1, 1, 0, 0), JobNets.NONE);
        due("time 0 is now", x.event(1, 0, 0, 0), 0);
        due("next(0, 3)", x.next(0, 3), 3);
        due("the text is empty", x.read(), 0);
        sentence("objects know nothing of each other");
        JobNets y = planned("a0 0 0 1-b;b0 0 0 1;");
        y.calendar(0, 0);
        y.holiday(0);
        y.needs(2, 1, 0);
        y.sign('a');
        same("all", all(x), "0 1 0 0 0 0 0 0 states  starts  means  critical  late  next ring ");
        due("read()", x.read(), 0);
    }

    private static void waitOrOut() {
        sentence("each job whose calendar has the day WAITS (1), the others are OUT (0)");
        JobNets x = new JobNets();
        x.calendar(0, 2);
        x.calendar(3, 10);
        read(x, "a0 0 1 0;b1 0 1 0;c2 0 1 0;d3 0 1 0;");
        due("plan(0)", x.plan(0), 2);
        same("day 0", states(x), "1010");
        due("plan(9), the 10th of its month", x.plan(9), 2);
        same("day 9", states(x), "1100");
        due("plan(2)", x.plan(2), 3);
        same("day 2", states(x), "1110");
        due("plan(5), no work day", x.plan(5), 1);
        same("day 5", states(x), "1000");
        x.holiday(0);
        due("plan(0), a holiday now", x.plan(0), 1);
        same("day 0", states(x), "1000");
    }

    private static void startTime() {
        sentence("a job that waits STARTS as soon as the time is its start or later");
        JobNets x = planned("a0 0 0 0;b0 0 1 0;c0 0 5 0;d0 0 999999 0;");
        same("at 0", states(x), "2111");
        due("event at 0", x.event(0, 0, 0, 0), 0);
        due("event at 1", x.event(0, 0, 0, 1), 1);
        due("event at 4", x.event(0, 0, 0, 4), 0);
        same("at 4", states(x), "2211");
        due("event at 7", x.event(0, 0, 0, 7), 1);
        due("event at 999998", x.event(0, 0, 0, 999998), 0);
        due("event at the last time", x.event(0, 0, 0, LAST_TIME), 1);
        same("starts", starts(x), "1@0 2@1 3@7 4@1000000000");
    }

    private static void needIsSo() {
        sentence("each need is so: it must have ended (0), failed (1), either (2)");
        for (int condition = 0; condition <= 2; condition++) {
            for (int kind = 1; kind <= 2; kind++) {
                JobNets x = net("a0 0 0 0;b0 0 0 0;c0 0 3 0;");
                x.needs(2, 1, condition);
                x.needs(1, 3, 2);
                x.plan(0);
                same("a waits, b waits", states(x), "111");
                x.event(0, 0, 0, 3);
                same("c runs, a waits, b waits", states(x), "112");
                x.event(3, 1, 0, 3);
                same("a runs, b waits", states(x), "213");
                boolean so = condition == 2 || condition == kind - 1;
                due("kind " + kind + ", condition " + condition, x.event(1, kind, 0, 3), so ? 1 : 0);
                due("b", x.state(2), so ? 2 : 1);
            }
        }
        JobNets y = planned("a0 0 0 0;b0 0 0 0;c0 0 4 0-a-b!;");
        due("one of two is so", y.event(1, 1, 0, 1), 0);
        due("both, but not its time", y.event(2, 2, 0, 2), 0);
        due("its time", y.event(0, 0, 0, 4), 1);
        JobNets z = planned("a0 0 0 0;b0 0 4 0-a;");
        due("its time, but not its need", z.event(0, 0, 0, 9), 0);
        due("both", z.event(1, 1, 0, 9), 1);
        sentence("of a job that is out it is so");
        same("each condition", states(planned("a1 0 0 0;b0 0 0 0-a;c0 0 0 0-a!;d0 0 0 0-a?;e0 0 0 0-a-b;")), "02221");
        sentence("once a plan");
        JobNets once = planned("a0 0 0 0;b0 0 0 0-a?;");
        due("a ends, b starts", once.event(1, 1, 0, 1), 1);
        due("b ends", once.event(2, 1, 0, 2), 0);
        due("nothing more", once.event(0, 0, 0, 3), 0);
        due("two starts", once.count(3), 2);
    }

    private static void order() {
        sentence("of several that can start the greater priority is first, then the lesser number");
        JobNets x = planned("a0 0 0 0;b0 7 0 0;c0 000007 0 0;d0 999999 0 0;e0 0 0 0;f0 8 0 0;");
        same("by plan()", starts(x), "4@0 6@0 2@0 3@0 1@0 5@0");
        JobNets y = planned("a0 9 0 0;b0 1 0 0-a;c0 2 0 0-a;d0 1 0 0-a;e0 3 2 0;");
        due("four", y.event(1, 1, 0, 5), 4);
        same("by event()", starts(y), "1@0 5@5 3@5 2@5 4@5");
        JobNets z = planned("a0 0 0 0;b1 0 0 0-a;c0 5 0 0-b;d0 9 0 0-b;");
        z.event(1, 1, 0, 1);
        z.event(3, 1, 0, 1);
        z.event(4, 1, 0, 1);
        due("three wait again", z.rerun(1), 3);
        same("by rerun()", starts(z), "4@0 3@0 1@0 4@1 3@1 1@1");
    }

    private static void plan() {
        sentence("a plan for a day, in place of the one before; starts go, the time is 0, and what can starts");
        JobNets x = new JobNets();
        x.calendar(0, 0);
        read(x, "a0 0 0 5;b1 0 0 5;c0 0 3 5;");
        due("plan(0)", x.plan(0), 3);
        x.event(1, 1, 0, 4);
        x.event(2, 2, 0, 4);
        same("before", states(x) + " " + starts(x), "342 1@0 2@0 3@4");
        due("plan(1)", x.plan(1), 2);
        same("behind", states(x) + " " + starts(x) + " " + x.count(5), "201 1@0 0");
        due("one start", x.started(1, 0), JobNets.NONE);
        due("the same again", x.plan(1), 2);
        same("the same again", states(x) + " " + starts(x) + " " + x.count(5), "201 1@0 0");
        due("kept times stay", x.mean(1, 0), 4);
        due("time goes on from 0", x.event(0, 0, 0, 1), 0);
        sentence("how many jobs are in it");
        due("none", new JobNets().plan(0), 0);
        due("all out", net("a1 0 0 0;b2 0 0 0;").plan(0), 0);
        JobNets empty = net("");
        empty.event(0, 0, 0, 9);
        due("no jobs", empty.plan(LAST_DAY), 0);
        due("no jobs, but the time is 0", empty.count(5), 0);
        sentence("NONE when day is not 0 .. 1000000");
        x.event(1, 1, 0, 6);
        x.needs(1, 1, 0);
        String before = all(x);
        for (long day : NO_DAYS) {
            due("plan(" + day + ")", x.plan(day), JobNets.NONE);
        }
        same("nothing is done", all(x), before);
        due("the greatest", x.plan(LAST_DAY), 2);
        due("the least", x.plan(0), 3);
    }

    private static JobNets running() {
        JobNets x = planned("a0 0 0 5;b0 0 0 5-a;c0 0 0 5;");
        x.event(3, 2, 0, 6);
        return x;
    }

    private static void dueRefused(JobNets x, int job, int kind, long t) {
        String before = all(x);
        due("event(" + job + ", " + kind + ", 0, " + t + ")", x.event(job, kind, 0, t), JobNets.NONE);
        same("doing nothing", all(x), before);
    }

    private static void eventRefused() {
        sentence("NONE, doing nothing, when kind is not so");
        for (int kind : new int[] {-1, 3, 4, Integer.MIN_VALUE, Integer.MAX_VALUE}) {
            dueRefused(running(), 1, kind, 9);
        }
        sentence("NONE, doing nothing, when t (0 .. 1000000000) is not so");
        for (int kind = 0; kind <= 2; kind++) {
            for (long t : new long[] {-1, LAST_TIME + 1L, Long.MIN_VALUE, Long.MAX_VALUE, (1L << 32) + 9, -1L << 32}) {
                dueRefused(running(), 1, kind, t);
            }
        }
        sentence("at a time t, not before the time now");
        for (int kind = 0; kind <= 2; kind++) {
            dueRefused(running(), 1, kind, 5);
            dueRefused(running(), 1, kind, 0);
            due("at the time now", running().event(1, kind, 0, 6), kind == 1 ? 1 : 0);
        }
        sentence("NONE, doing nothing, when, but of kind 0, the job is not so");
        for (int kind = 1; kind <= 2; kind++) {
            for (int job : NO_JOBS) {
                dueRefused(running(), job, kind, 9);
            }
            dueRefused(running(), 2, kind, 9);
            dueRefused(running(), 3, kind, 9);
            JobNets out = planned("a1 0 0 0;b0 0 0 0;");
            dueRefused(out, 1, kind, 9);
            dueRefused(net("a0 0 0 0;"), 1, kind, 9);
        }
        for (int job : NO_JOBS) {
            due("event(" + job + ", 0, 0, 9)", running().event(job, 0, 0, 9), 0);
        }
    }

    private static void eventDone() {
        sentence("kind = 0 nothing else");
        JobNets x = running();
        due("event(1, 0, 0, 9)", x.event(1, 0, 0, 9), 0);
        same("a runs on", states(x) + " " + x.count(5), "214 9");
        sentence("1 a running job has ended, 2 failed; the time is t then");
        due("ended, b starts", x.event(1, 1, 0, 11), 1);
        same("a ended", states(x) + " " + x.count(5), "324 11");
        due("failed", x.event(2, 2, 0, 11), 0);
        same("b failed", states(x) + " " + x.count(5), "344 11");
        due("the least time", planned("a0 0 0 0;").event(1, 1, 0, 0), 0);
        JobNets y = running();
        due("the greatest time", y.event(1, 1, 0, LAST_TIME), 1);
        due("the greatest time", y.count(5), LAST_TIME);
        due("the greatest time again", y.event(2, 1, 0, LAST_TIME), 0);
        same("times", means(y), "1000000000+0 0+0 none");
        sentence("without a plan the time goes on");
        JobNets none = net("a0 0 0 0;");
        due("event(0, 0, 0, 9)", none.event(0, 0, 0, 9), 0);
        same("none starts", states(none) + " " + none.count(5), "0 9");
        due("before it", none.event(0, 0, 0, 8), JobNets.NONE);
        sentence("all that can starts: how many started");
        due("25", planned(many()).event(1, 1, 0, 0), 25);
        JobNets all = planned(many().replace("-a", ""));
        due("26, by plan()", all.count(7), 26);
        JobNets later = planned(many().replace("-a", "").replace("0 0 0 0", "0 0 1 0"));
        due("26, by event()", later.event(0, 0, 0, 1), 26);
        due("the last of 26", later.started(25, 0), 26);
    }

    /** 26 jobs, of which 25 need the first one. */
    private static String many() {
        StringBuilder s = new StringBuilder("a0 0 0 0;");
        for (char c = 'b'; c <= 'z'; c++) {
            s.append(c).append("0 0 0 0-a;");
        }
        return s.toString();
    }

    private static void kept() {
        sentence("an ended job's time (from its start) is kept, if code is 0");
        for (int code : new int[] {1, -1, 255, Integer.MIN_VALUE, Integer.MAX_VALUE}) {
            JobNets x = planned("a0 0 0 5;");
            x.event(1, 1, code, 3);
            dueNoMean("code " + code, x, 1, 0);
            due("it has ended", x.state(1), 3);
        }
        JobNets failed = planned("a0 0 0 5;");
        failed.event(1, 2, 0, 3);
        dueNoMean("a failed one's is not", failed, 1, 0);
        JobNets x = planned("a0 0 2 5;b0 0 0 5;");
        x.event(0, 0, 0, 5);
        x.event(1, 1, 0, 9);
        same("from its start, that was at 5", means(x), "4+0 none");
        x.rerun(1);
        x.event(1, 1, 0, 10);
        same("from its latest start", means(x), "2+1 none");
        JobNets y = planned("a0 0 0 5;");
        y.event(1, 1, 0, 0);
        same("a time of 0 is kept too", means(y), "0+0");
        y.event(0, 0, 0, LAST_TIME);
        due("refused ones keep none", y.event(1, 1, 0, LAST_TIME), JobNets.NONE);
        same("refused ones keep none", means(y), "0+0");
    }

    private static void started() {
        sentence("of the i-th start of this plan, from 0 on: what = 0 the job, 1 the time");
        JobNets x = planned("a0 1 0 0;b0 2 0 0;c0 0 0 0-a;");
        x.event(1, 1, 0, 8);
        int[][] want = {{2, 0}, {1, 0}, {3, 8}};
        for (int i = 0; i < want.length; i++) {
            due("started(" + i + ", 0)", x.started(i, 0), want[i][0]);
            due("started(" + i + ", 1)", x.started(i, 1), want[i][1]);
        }
        sentence("NONE when there is none such");
        for (int i : new int[] {-1, 3, 4, Integer.MIN_VALUE, Integer.MAX_VALUE}) {
            due("started(" + i + ", 0)", x.started(i, 0), JobNets.NONE);
            due("started(" + i + ", 1)", x.started(i, 1), JobNets.NONE);
        }
        for (int what : new int[] {-1, 2, 3, Integer.MIN_VALUE, Integer.MAX_VALUE}) {
            due("started(0, " + what + ")", x.started(0, what), JobNets.NONE);
        }
        sentence("each start is written down");
        JobNets y = planned("a0 0 0 0;");
        for (int i = 1; i <= 120; i++) {
            y.event(1, 1 + i % 2, 0, i);
            due("rerun(1)", y.rerun(1), 1);
        }
        due("starts", y.count(3), 121);
        due("the last", y.started(120, 0), 1);
        due("the last", y.started(120, 1), 120);
        due("none behind", y.started(121, 0), JobNets.NONE);
    }

    private static void rerun() {
        sentence("a job that has ended or failed, and all that need it, at any depth, and started, wait again");
        JobNets x = planned("a0 0 0 0;b0 0 0 0-a?;c0 0 0 0-b?;d0 0 0 0-c?;e0 0 0 0;f0 0 0 0-d;g0 0 50 0-a;");
        for (int job = 1; job <= 5; job++) {
            x.event(job, 1 + job % 2, 0, 10 + job);
        }
        x.event(6, 1, 0, 20);
        same("all but g", states(x), "4343431");
        String before = starts(x);
        due("c, d and f", x.rerun(3), 3);
        same("c starts, a, b and e stay", states(x), "4321411");
        same("starts", starts(x), before + " 3@20");
        x.event(3, 2, 0, 21);
        x.event(4, 2, 0, 21);
        due("f waits, it did not start", x.rerun(1), 4);
        same("a starts", states(x), "2111411");
        JobNets last = planned("a0 0 0 0;b0 0 0 0-a;");
        last.event(1, 1, 0, 1);
        last.event(2, 1, 0, 2);
        due("none behind it", last.rerun(2), 1);
        same("a stays", states(last), "32");
        JobNets two = planned("a0 0 0 0;b0 0 0 0-a-a;c0 0 0 0-a-b;");
        two.event(1, 1, 0, 1);
        two.event(2, 1, 0, 1);
        two.event(3, 1, 0, 1);
        due("each once, whatever the ways to it", two.rerun(1), 3);
        JobNets out = planned("a0 0 0 0;b1 0 0 0-a;c0 0 0 0-b;");
        out.event(1, 1, 0, 1);
        out.event(3, 1, 0, 1);
        due("through one that is out", out.rerun(1), 2);
        same("the one that is out stays so", states(out), "202");
        JobNets most = planned(many());
        for (int job = 1; job <= 26; job++) {
            most.event(job, 1, 0, job);
        }
        due("26", most.rerun(1), 26);
        due("one runs", most.count(7), 1);
    }

    private static void rerunNot() {
        sentence("0 when the job hasn't");
        JobNets x = planned("a0 0 0 0;b1 0 0 0-a;c0 0 0 0-b;d0 0 0 0-a;e0 0 0 0-d;");
        String before = all(x);
        due("a runs", x.rerun(1), 0);
        due("b is out", x.rerun(2), 0);
        due("d waits", x.rerun(4), 0);
        same("nothing is done", all(x), before);
        due("no plan", net("a0 0 0 0;").rerun(1), 0);
        sentence("0 when one of those runs");
        x.event(1, 1, 0, 1);
        x.event(4, 1, 0, 1);
        x.event(3, 1, 0, 1);
        before = all(x);
        due("e runs, behind d, behind a", x.rerun(1), 0);
        due("e runs, behind d", x.rerun(4), 0);
        same("nothing is done", all(x), before);
        due("e needs c not", x.rerun(3), 1);
        x.event(5, 1, 0, 1);
        due("c runs, behind b that is out", x.rerun(1), 0);
        x.event(3, 2, 0, 1);
        due("none runs", x.rerun(1), 4);
        JobNets back = planned("a0 0 0 0-b;b0 0 0 0;");
        back.event(2, 1, 0, 1);
        due("job 1 runs, behind job 2", back.rerun(2), 0);
        back.event(1, 1, 0, 1);
        due("none runs", back.rerun(2), 2);
        sentence("NONE when there is none such");
        JobNets y = running();
        before = all(y);
        for (int job : NO_JOBS) {
            due("rerun(" + job + ")", y.rerun(job), JobNets.NONE);
        }
        same("nothing is done", all(y), before);
    }

    private static void mean() {
        sentence("the mean of a job's kept times: side = 0 whole part, 1 what is left of the sum");
        JobNets x = net("a0 0 0 5;b0 0 0 5;");
        int[][] times = {{7, 7, 0}, {0, 3, 1}, {1, 2, 2}, {4, 3, 0}, {0, 2, 2}};
        for (int[] t : times) {
            x.plan(0);
            x.event(1, 1, 0, t[0]);
            due("whole part", x.mean(1, 0), t[1]);
            due("what is left", x.mean(1, 1), t[2]);
        }
        sentence("ArithmeticException when none was kept");
        dueNoMean("mean(2, 0)", x, 2, 0);
        dueNoMean("mean(2, 1)", x, 2, 1);
        dueNoMean("without a plan", net("a0 0 0 5;"), 1, 0);
        sentence("NONE when there is no such job or side");
        for (int job : new int[] {0, -1, 3, 26, 27, Integer.MIN_VALUE, Integer.MAX_VALUE}) {
            due("mean(" + job + ", 0)", x.mean(job, 0), JobNets.NONE);
            due("mean(" + job + ", 2)", x.mean(job, 2), JobNets.NONE);
        }
        for (int side : new int[] {-1, 2, Integer.MIN_VALUE, Integer.MAX_VALUE}) {
            due("mean(1, " + side + ")", x.mean(1, side), JobNets.NONE);
            due("none was kept, mean(2, " + side + ")", x.mean(2, side), JobNets.NONE);
        }
        sentence("no sum is too great");
        for (int i = 0; i < 10; i++) {
            x.plan(0);
            x.event(2, 1, 0, LAST_TIME - i % 2);
        }
        same("10 times of the greatest", means(x), "2+2 999999999+5");
    }

    private static void late() {
        sentence("one that runs longer than its mean (its estimate, if none was kept)");
        JobNets x = planned("a0 0 0 5;b0 0 0 0;");
        same("at 0", late(x, 0), "");
        same("longer than an estimate of 0", late(x, 1), "2");
        same("not longer", late(x, 5), "2");
        same("longer", late(x, 6), "1 2");
        x.event(1, 1, 0, 8);
        x.plan(0);
        same("a mean of 8", late(x, 8), "2");
        same("a mean of 8", late(x, 9), "1 2");
        x.event(1, 1, 0, 9);
        x.plan(0);
        same("a mean of 8 and a half", late(x, 8), "2");
        same("a mean of 8 and a half", late(x, 9), "1 2");
        JobNets from = planned("a0 0 2 5;");
        from.event(0, 0, 0, 10);
        same("from its own start on", late(from, 15), "");
        same("from its own start on", late(from, 16), "1");
        JobNets zero = planned("a0 0 0 5;");
        zero.event(1, 1, 0, 0);
        zero.plan(0);
        same("a mean of 0 is one", late(zero, 0), "");
        same("a mean of 0 is one", late(zero, 1), "1");
        sentence("or waits though its start is more than that before");
        JobNets y = planned("a0 0 0 999999;b0 0 3 4-a;");
        same("just not", late(y, 7), "");
        same("more", late(y, 8), "2");
        y.event(1, 1, 0, 20);
        y.event(2, 1, 0, 30);
        y.rerun(1);
        same("a mean of 10", late(y, 13), "");
        same("a mean of 10", late(y, 14), "2");
        sentence("the others are never late");
        JobNets z = planned("a0 0 0 1;b0 0 0 1;c1 0 0 1;");
        z.event(1, 1, 0, 1);
        z.event(2, 2, 0, 1);
        same("ended, failed, out", late(z, Long.MAX_VALUE), "");
        same("no plan", late(net("a0 0 0 1;"), Long.MAX_VALUE), "");
    }

    private static void lateRow() {
        sentence("the i-th job that is late at a time t, by numbers; 0 when there is none");
        JobNets x = planned("a0 0 0 3;b0 9 0 1;c0 0 0 9;d0 5 0 2;");
        int[] want = {1, 2, 4};
        for (int i = 0; i < want.length; i++) {
            due("late(5, " + i + ")", x.late(5, i), want[i]);
        }
        for (int i : new int[] {-1, 3, 4, Integer.MIN_VALUE, Integer.MAX_VALUE}) {
            due("late(5, " + i + ")", x.late(5, i), 0);
        }
        same("the greatest time", late(x, Long.MAX_VALUE), "1 2 3 4");
        same("the least time", late(x, Long.MIN_VALUE), "");
        same("below 0", late(x, -1), "");
        x.event(0, 0, 0, LAST_TIME);
        same("a time before now", late(x, 3), "2 4");
        due("26", lateOf26(), 26);
    }

    private static int lateOf26() {
        JobNets x = planned(many());
        return x.late(1, 25) == 26 && x.late(1, 26) == 0 ? 26 : 0;
    }

    private static void state() {
        sentence("a job's state 0 .. 4");
        JobNets x = planned("a1 0 0 1;b0 0 9 1;c0 0 0 1;d0 0 0 1;e0 0 0 1;");
        x.event(4, 1, 0, 0);
        x.event(5, 2, 0, 0);
        same("out, waits, runs, ended, failed", states(x), "01234");
        same("without a plan", states(net("a0 0 0 1;")), "0");
        sentence("NONE when there is none such");
        JobNets y = running();
        for (int job : NO_JOBS) {
            due("state(" + job + ")", y.state(job), JobNets.NONE);
        }
    }

    private static void count() {
        sentence("what = 0 jobs .. 7 running jobs");
        JobNets x = new JobNets();
        x.calendar(0, 0);
        x.calendar(4, 0);
        x.holiday(9);
        x.holiday(8);
        x.holiday(7);
        x.holiday(8);
        read(x, "a0 0 0 0;b0 0 0 0-a;c0 0 0 0-b;d9 0 0 0;e0 0 0 0;f0 0 0 0;");
        x.plan(0);
        x.event(1, 1, 0, 40);
        x.event(5, 2, 0, 41);
        x.needs(1, 3, 0);
        int[] want = {6, 2, 2, 4, 5, 41, 3, 2};
        for (int what = 0; what < want.length; what++) {
            due("count(" + what + ")", x.count(what), want[what]);
        }
        sentence("NONE for others");
        for (int what : new int[] {-1, 8, 9, Integer.MIN_VALUE, Integer.MAX_VALUE}) {
            due("count(" + what + ")", x.count(what), JobNets.NONE);
        }
    }

    public static void main(String[] args) {
        newObject();
        waitOrOut();
        startTime();
        needIsSo();
        order();
        plan();
        eventRefused();
        eventDone();
        kept();
        started();
        rerun();
        rerunNot();
        mean();
        late();
        lateRow();
        state();
        count();
        end();
    }
}
