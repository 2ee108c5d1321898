/** The sentences on needs, rings and the longest way (promises 6, 12 and 13), each with its edges. */
public final class NetEdgeTest extends Checks {
    private static final int[] NO_JOBS = {0, -1, 4, 26, 27, 28, Integer.MIN_VALUE, Integer.MAX_VALUE};
    private static final int[] NO_CONDITIONS = {-1, 3, Integer.MIN_VALUE, Integer.MAX_VALUE};
    private static final String THREE = "a0 0 0 1;b0 0 0 1;c0 0 0 1;";

    private static String jobs(int n, String behindEach) {
        StringBuilder s = new StringBuilder();
        for (int i = 0; i < n; i++) {
            s.append((char) ('a' + i)).append("0 0 0 1").append(behindEach).append(';');
        }
        return s.toString();
    }

    private static void needs() {
        sentence("a job needs one more (condition 0 ended, 1 failed, 2 either): 1");
        for (int condition = 0; condition <= 2; condition++) {
            for (int kind = 1; kind <= 2; kind++) {
                JobNets x = net(THREE);
                due("needs(3, 1, " + condition + ")", x.needs(3, 1, condition), 1);
                x.plan(0);
                same("c waits", states(x), "221");
                boolean so = condition == 2 || condition == kind - 1;
                due("kind " + kind + ", condition " + condition, x.event(1, kind, 0, 1), so ? 1 : 0);
            }
        }
        JobNets both = planned(THREE.replace("c0 0 0 1", "c0 0 5 1-a"));
        due("behind those of the text, in a plan", both.needs(3, 2, 1), 1);
        due("in a plan nothing else is done", both.count(3), 2);
        both.event(1, 1, 0, 6);
        same("c needs b too", states(both), "321");
        due("b fails", both.event(2, 2, 0, 6), 1);
        due("of one that runs, it runs on", both.needs(3, 1, 1), 1);
        due("of one that runs, it runs on", both.state(3), 2);
        due("twice the same", both.needs(3, 1, 1), 1);
        sentence("0 when that would make a ring");
        JobNets x = net(THREE);
        due("itself", x.needs(1, 1, 0), 0);
        due("b needs a", x.needs(2, 1, 0), 1);
        due("c needs b", x.needs(3, 2, 1), 1);
        for (int condition = 0; condition <= 2; condition++) {
            due("a needs b", x.needs(1, 2, condition), 0);
            due("a needs c", x.needs(1, 3, condition), 0);
            due("b needs c", x.needs(2, 3, condition), 0);
        }
        x.plan(0);
        same("refused needs are none", states(x), "211");
        due("two ways are no ring", x.needs(3, 1, 0), 1);
    }

    private static void needsRefused() {
        sentence("NONE when there is no such job");
        JobNets x = net(THREE);
        x.needs(2, 1, 0);
        x.needs(1, 2, 0);
        x.plan(0);
        String before = all(x);
        for (int job : NO_JOBS) {
            due("needs(" + job + ", 1, 0)", x.needs(job, 1, 0), JobNets.NONE);
            due("needs(1, " + job + ", 0)", x.needs(1, job, 0), JobNets.NONE);
            due("needs(" + job + ", " + job + ", 0)", x.needs(job, job, 0), JobNets.NONE);
        }
        sentence("NONE when there is no such condition");
        for (int condition : NO_CONDITIONS) {
            due("needs(3, 1, " + condition + ")", x.needs(3, 1, condition), JobNets.NONE);
            due("a ring too, needs(3, 3, " + condition + ")", x.needs(3, 3, condition), JobNets.NONE);
        }
        same("nothing is done", all(x), before);
        sentence("NONE when it has 20 needs");
        JobNets y = net(THREE + "d0 0 0 1-a-a-a-a-a-a-a-a-a-a-a-a-a-a-a-a-a-a;");
        due("the 19th", y.needs(4, 2, 0), 1);
        due("a ring when it has 19", y.needs(4, 4, 0), 0);
        due("the 20th", y.needs(4, 2, 0), 1);
        due("the 21st", y.needs(4, 2, 0), JobNets.NONE);
        due("a ring when it has 20", y.needs(4, 4, 0), JobNets.NONE);
        due("of no job when it has 20", y.needs(4, 9, 0), JobNets.NONE);
        due("others may need it", y.needs(3, 4, 0), 1);
        due("ring of one that has 0 needs", y.needs(1, 4, 0), 0);
        JobNets all = net(jobs(21, ""));
        for (int other = 1; other <= 20; other++) {
            due("20 jobs", all.needs(21, other, 0), 1);
        }
        due("one more", all.needs(21, 1, 0), JobNets.NONE);
        all.plan(0);
        for (int other = 1; other <= 20; other++) {
            due("all 20 are needed", all.event(other, 1, 0, other), other == 20 ? 1 : 0);
        }
    }

    private static void ring() {
        sentence("0 when there is none");
        JobNets x = net(THREE);
        for (int i : new int[] {0, 1, -1, Integer.MIN_VALUE, Integer.MAX_VALUE}) {
            due("none yet, ring(" + i + ")", x.ring(i), 0);
        }
        x.needs(2, 1, 0);
        x.needs(3, 2, 0);
        due("a need that is taken makes none", x.count(6), 0);
        x.needs(1, 3, 0);
        for (int i : new int[] {3, 4, -1, Integer.MIN_VALUE, Integer.MAX_VALUE}) {
            due("of three, ring(" + i + ")", x.ring(i), 0);
        }
        sentence("from the one that is needed on, each needing the next one, to the one whose need closed it");
        same("refused by needs()", ring(x), "3 2 1");
        due("its length", x.count(6), 3);
        x.needs(2, 3, 0);
        same("refused by needs()", ring(x), "3 2");
        x.needs(2, 2, 2);
        same("itself", ring(x), "2");
        due("its length", x.count(6), 1);
        sentence("the ring that was found latest");
        due("a faulty text", read(x, "a0 0 0 1-a;!"), -12);
        same("is as before", ring(x), "2");
        due("a name that is none of the text", read(x, "a0 0 0 1-a-b;"), -12);
        same("is as before", ring(x), "2");
        x.needs(1, 1, 3);
        x.needs(9, 9, 0);
        same("refused by NONE, is as before", ring(x), "2");
        x.plan(0);
        x.event(1, 1, 0, 1);
        x.rerun(1);
        same("plans leave it", ring(x), "2");
        due("a text", read(x, "a0 0 0 1;"), 1);
        same("a right text leaves it", ring(x), "2");
        due("a ring in a text", read(x, "a0 0 0 1-b;b0 0 0 1-c;c0 0 0 1-a;"), -34);
        same("found by read()", ring(x), "2 3 1");
        x.needs(1, 1, 0);
        same("the jobs are those before", ring(x), "1");
    }

    private static String ringOf(String text) {
        JobNets x = new JobNets();
        due("read() of [" + text + "]", read(x, text), -1 - text.length());
        return ring(x);
    }

    private static void ringsByRead() {
        sentence("by read() the first need, of jobs and needs in their order, that closes one");
        same("itself", ringOf("a0 0 0 1-a;"), "1");
        same("the first job's", ringOf("a0 0 0 1-b;b0 0 0 1-a;"), "2 1");
        same("the first need's", ringOf("a0 0 0 1-c-b;b0 0 0 1-a;c0 0 0 1-a;"), "3 1");
        same("of needs that close one", ringOf("a0 0 0 1-b;b0 0 0 1-c-d;c0 0 0 1;d0 0 0 1-b;"), "4 2");
        same("a job that leads to one closes none", ringOf("a0 0 0 1-b;b0 0 0 1-b;"), "2");
        same("its first need, not its need of itself", ringOf("a0 0 0 1-b-a;b0 0 0 1-a;"), "2 1");
        same("the longer one, if its need is first",
            ringOf("a0 0 0 1-b;b0 0 0 1-c;c0 0 0 1-a;d0 0 0 1-d;"), "2 3 1");
        StringBuilder round = new StringBuilder();
        StringBuilder want = new StringBuilder();
        for (int i = 0; i < 26; i++) {
            round.append((char) ('a' + i)).append("0 0 0 1-").append((char) ('a' + (i + 1) % 26)).append(';');
            want.append((i + 1) % 26 + 1).append(i == 25 ? "" : " ");
        }
        same("all 26", ringOf(round.toString()), want.toString());
        sentence("the shortest way");
        same("not the first need's", ringOf("a0 0 0 1-b;b0 0 0 1-c-d;c0 0 0 1-e;d0 0 0 1-a;e0 0 0 1-a;"), "2 4 1");
        same("straight", ringOf("a0 0 0 1-b;b0 0 0 1-c-a;c0 0 0 1-a;"), "2 1");
        sentence("of several the one that is found first by needs in their order, level by level");
        same("by needs", ringOf("a0 0 0 1-b;b0 0 0 1-d-c;c0 0 0 1-a;d0 0 0 1-a;"), "2 4 1");
        same("by the needs of the level before", ringOf(
            "a0 0 0 1-b;b0 0 0 1-d-c;c0 0 0 1-e;d0 0 0 1-f;e0 0 0 1-a;f0 0 0 1-a;"), "2 4 6 1");
        same("one that both lead to is of the first",
            ringOf("a0 0 0 1-b;b0 0 0 1-d-c;c0 0 0 1-e;d0 0 0 1-e;e0 0 0 1-a;"), "2 4 5 1");
    }

    private static void ringsByNeeds() {
        sentence("refused by needs(): the shortest way, found first by needs in their order");
        JobNets x = net("a0 0 0 1;b0 0 0 1-a;c0 0 0 1-a;d0 0 0 1-c-b;e0 0 0 1-d;");
        x.needs(1, 5, 0);
        same("c is d's first need", ring(x), "5 4 3 1");
        x.needs(5, 2, 0);
        x.needs(1, 5, 0);
        same("a shorter way came", ring(x), "5 2 1");
        x.needs(1, 5, 0);
        same("the same again", ring(x), "5 2 1");
        x.needs(3, 4, 0);
        same("another", ring(x), "4 3");
    }

    private static void critical() {
        sentence("0 when there is none");
        same("no job", critical(new JobNets()), "");
        same("no plan", critical(net(THREE)), "");
        same("no job in the plan", critical(planned("a1 0 0 9;")), "");
        JobNets x = planned("a0 0 0 3;b0 0 0 4-a;c0 0 0 1-b;d0 0 0 7;");
        same("a, b, c", critical(x), "1 2 3");
        for (int i : new int[] {3, -1, Integer.MIN_VALUE, Integer.MAX_VALUE}) {
            due("critical(" + i + ")", x.critical(i), 0);
        }
        sentence("through jobs of the plan");
        same("not through one that is out", critical(planned("a0 0 0 9;b1 0 0 9-a;c0 0 0 8-b;")), "1");
        same("not one that is out", critical(planned("a1 0 0 9;b0 0 0 1-a;")), "2");
        x.event(1, 1, 0, 1);
        x.event(2, 2, 0, 1);
        same("ended and failed ones are of it", critical(x), "1 2 3");
        sentence("each needing the one before, by sums of estimates");
        same("not by their number", critical(planned("a0 0 0 1;b0 0 0 1-a;c0 0 0 1-b;d0 0 0 4;")), "4");
        same("not by the order of needs", critical(planned("d0 0 0 1-a-b;a0 0 0 2;b0 0 0 3;")), "3 1");
        same("whatever the condition", critical(planned("a0 0 0 1;b0 0 0 1-a!;c0 0 0 1-b?;")), "1 2 3");
        same("the text's last is needed", critical(planned("a0 0 0 1-b;b0 0 0 1-c;c0 0 0 1;")), "3 2 1");
        JobNets y = planned(THREE);
        y.needs(1, 3, 0);
        same("a need that came", critical(y), "3 1");
        y.needs(3, 1, 0);
        same("a need that was refused", critical(y), "3 1");
        read(y, "a0 0 0");
        same("a text that was refused", critical(y), "3 1");
        same("the greatest estimates", critical(planned(chain("999999"))), row(26));
    }

    private static String chain(String estimate) {
        StringBuilder s = new StringBuilder("a0 0 0 " + estimate + ";");
        for (char c = 'b'; c <= 'z'; c++) {
            s.append(c).append("0 0 0 ").append(estimate).append('-').append((char) (c - 1)).append(';');
        }
        return s.toString();
    }

    private static String row(int n) {
        StringBuilder s = new StringBuilder("1");
        for (int i = 2; i <= n; i++) {
            s.append(' ').append(i);
        }
        return s.toString();
    }

    private static void equalWays() {
        sentence("of equal ways that which ends in the lesser number");
        same("three ends", critical(planned(THREE)), "1");
        same("a longer row", critical(planned("a0 0 0 1-c;b0 0 0 3;c0 0 0 2;")), "3 1");
        same("the end, not the begin", critical(planned("a0 0 0 1;b0 0 0 2-d;c0 0 0 2-a;d0 0 0 1;")), "4 2");
        sentence("and so on back");
        same("the one before", critical(planned("a0 0 0 1;b0 0 0 1;c0 0 0 1-b-a;")), "1 3");
        same("two before", critical(planned("a0 0 0 1;b0 0 0 1;c0 0 0 1-b;d0 0 0 1-a;e0 0 0 1-d-c;")), "2 3 5");
        same("estimates of 0 in the midst", critical(planned("a0 0 0 1;b0 0 0 0-a;c0 0 0 1-b;")), "1 2 3");
        same("none before is the least", critical(planned("a0 0 0 0;b0 0 0 1-a;")), "2");
        same("all 0", critical(planned("b0 0 0 0-a;a0 0 0 0;")), "1");
        same("a straight need of one that is on the way", critical(planned("a0 0 0 1;b0 0 0 0-a;c0 0 0 1-a-b;")), "1 3");
    }

    public static void main(String[] args) {
        needs();
        needsRefused();
        ring();
        ringsByRead();
        ringsByNeeds();
        critical();
        equalWays();
        end();
    }
}
