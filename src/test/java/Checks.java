/** What the tests share: they name the sentence that they look at, and tell what is not as due. */
class Checks {
    // More answers than any row has, so that a class that never says 0 is told, not waited for.
    private static final int MOST = 100;
    private static int wrong = 0;
    private static int checks = 0;
    private static String sentence = "";

    /** The words of the document that the checks from here on are about. */
    static void sentence(String words) {
        sentence = words + ": ";
    }

    static void tell(String what) {
        wrong++;
        System.out.println(sentence + what);
    }

    static void due(String what, long got, long want) {
        checks++;
        if (got != want) {
            tell(what + " answered " + got + ", due is " + want);
        }
    }

    static void same(String what, String got, String want) {
        checks++;
        if (!got.equals(want)) {
            tell(what + " answered [" + got + "], due is [" + want + "]");
        }
    }

    static void end() {
        System.out.println(checks + " answers looked at, " + wrong + " not as due");
        if (wrong != 0 || checks == 0) {
            System.exit(1);
        }
    }

    static void write(JobNets x, String text) {
        for (int i = 0; i < text.length(); i++) {
            x.sign(text.charAt(i));
        }
    }

    static int read(JobNets x, String text) {
        write(x, text);
        return x.read();
    }

    static JobNets net(String text) {
        JobNets x = new JobNets();
        if (read(x, text) < 0) {
            tell("not read: " + text);
        }
        return x;
    }

    static JobNets planned(String text) {
        JobNets x = net(text);
        x.plan(0);
        return x;
    }

    static void dueFault(String text, int place) {
        due("read() of [" + text + "]", read(new JobNets(), text), -1 - place);
    }

    static void dueJobs(String text, int jobs) {
        due("read() of [" + text + "]", read(new JobNets(), text), jobs);
    }

    static void dueNoMean(String what, JobNets x, int job, int side) {
        boolean thrown = false;
        try {
            x.mean(job, side);
        } catch (ArithmeticException e) {
            // The machine's own words would tell of a division that nobody looked at.
            thrown = !"/ by zero".equals(e.getMessage());
        }
        due(what + " throws", thrown ? 1 : 0, 1);
    }

    /** The answers till the first 0, and so in those below. */
    static String ring(JobNets x) {
        StringBuilder s = new StringBuilder();
        for (int i = 0; i < MOST && x.ring(i) != 0; i++) {
            s.append(x.ring(i)).append(' ');
        }
        return s.toString().trim();
    }

    static String critical(JobNets x) {
        StringBuilder s = new StringBuilder();
        for (int i = 0; i < MOST && x.critical(i) != 0; i++) {
            s.append(x.critical(i)).append(' ');
        }
        return s.toString().trim();
    }

    static String late(JobNets x, long t) {
        StringBuilder s = new StringBuilder();
        for (int i = 0; i < MOST && x.late(t, i) != 0; i++) {
            s.append(x.late(t, i)).append(' ');
        }
        return s.toString().trim();
    }

    static String starts(JobNets x) {
        StringBuilder s = new StringBuilder();
        for (int i = 0; i < x.count(3); i++) {
            s.append(x.started(i, 0)).append('@').append(x.started(i, 1)).append(' ');
        }
        return s.toString().trim();
    }

    static String states(JobNets x) {
        StringBuilder s = new StringBuilder();
        for (int job = 1; job <= x.count(0); job++) {
            s.append(x.state(job));
        }
        return s.toString();
    }

    static String means(JobNets x) {
        StringBuilder s = new StringBuilder();
        for (int job = 1; job <= x.count(0); job++) {
            try {
                s.append(x.mean(job, 0)).append('+').append(x.mean(job, 1)).append(' ');
            } catch (ArithmeticException e) {
                s.append("none ");
            }
        }
        return s.toString().trim();
    }

    /** All that can be seen of an object without a change, but its ring. */
    static String allButRing(JobNets x) {
        StringBuilder s = new StringBuilder();
        for (int what = 0; what < 8; what++) {
            s.append(what == 6 ? 0 : x.count(what)).append(' ');
        }
        s.append("states ").append(states(x)).append(" starts ").append(starts(x));
        s.append(" means ").append(means(x)).append(" critical ").append(critical(x));
        s.append(" late ").append(late(x, x.count(5) + 10L)).append(" next");
        for (int calendar = 1; calendar < x.count(1); calendar++) {
            s.append(' ').append(x.next(calendar, 0));
        }
        return s.toString();
    }

    static String all(JobNets x) {
        return allButRing(x) + " ring " + ring(x);
    }
}
