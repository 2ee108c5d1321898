/** Arguments at their least and greatest, in every kind of state: nothing is thrown but what mean() promises. */
public final class ExtremesTest extends Checks {
    private static final int[] INTS = {Integer.MIN_VALUE, Integer.MIN_VALUE + 1, -65535, -27, -2, -1, 0, 1, 2, 3, 4, 6,
        7, 19, 20, 21, 25, 26, 27, 28, 30, 31, 96, 538, 65536, 1000001, Integer.MAX_VALUE - 1, Integer.MAX_VALUE};
    private static final long[] LONGS = {Long.MIN_VALUE, Long.MIN_VALUE + 1, -1L << 32, Integer.MIN_VALUE, -1, 0, 1, 6,
        29, 400, 999999, 1000000, 1000001, 1000000000, 1000000001, Integer.MAX_VALUE, 1L << 31, 1L << 32,
        Long.MAX_VALUE - 1, Long.MAX_VALUE};
    private static final int STATES = 6;

    private static String chain() {
        StringBuilder s = new StringBuilder("a0 0 0 9;");
        for (char c = 'b'; c <= 'z'; c++) {
            s.append(c).append("0 9 9 9-").append((char) (c - 1)).append(';');
        }
        return s.toString();
    }

    /** An object in one of the states: new, read, planned, with jobs in all states, at the last time, full. */
    private static JobNets made(int state) {
        switch (state) {
            case 0:
                return new JobNets();
            case 1:
                return net("a0 0 0 1;b1 0 0 1-a;");
            case 2:
                return planned("a0 0 0 1;b1 0 0 1-a;c0 0 0 1-b!;");
            case 3:
                JobNets mixed = planned("a1 0 0 1;b0 0 9 1;c0 0 0 1;d0 0 0 1;e0 0 0 1;");
                mixed.event(4, 1, 0, 5);
                mixed.event(5, 2, 0, 5);
                mixed.needs(1, 1, 0);
                return mixed;
            case 4:
                JobNets last = planned(chain());
                last.event(1, 1, 0, 1000000000);
                return last;
            default:
                JobNets full = net(chain());
                for (int i = 0; i < 20; i++) {
                    full.calendar(1, 22);
                    full.needs(26, 25, 2);
                }
                for (int i = 0; i < 100; i++) {
                    full.holiday(1000000 - i);
                }
                full.needs(1, 26, 0);
                full.plan(1000000);
                return full;
        }
    }

    private static void ofOneInt(int state) {
        for (int a : INTS) {
            JobNets x = made(state);
            boolean there = a >= 1 && a <= x.count(0);
            due("state(" + a + ") is NONE", x.state(a) == JobNets.NONE ? 1 : 0, there ? 0 : 1);
            due("rerun(" + a + ") is NONE", x.rerun(a) == JobNets.NONE ? 1 : 0, there ? 0 : 1);
            due("ring(" + a + ") is 0", x.ring(a) == 0 ? 1 : 0, a >= 0 && a < x.count(6) ? 0 : 1);
            int onWay = a >= 0 && a < 26 && x.critical(a) > 0 ? 1 : 0;
            due("critical(" + a + ") is 0", x.critical(a) == 0 ? 1 : 0, 1 - onWay);
            due("count(" + a + ") is NONE", x.count(a) == JobNets.NONE ? 1 : 0, a >= 0 && a <= 7 ? 0 : 1);
            x.sign(a);
            due("read() of " + a, x.read(), -1);
        }
    }

    private static void ofTwoInts(int state) {
        for (int a : INTS) {
            for (int b : INTS) {
                JobNets x = made(state);
                boolean rule = (a == 0 || a == 2) && b >= 0 && b <= 6 || (a == 1 || a == 3) && b >= 1 && b <= 30;
                int number = rule && x.count(1) < 20 ? x.count(1) : JobNets.NONE;
                due("calendar(" + a + ", " + b + ")", x.calendar(a, b), number);
                boolean start = a >= 0 && a < x.count(3) && b >= 0 && b <= 1;
                due("started(" + a + ", " + b + ") is NONE", x.started(a, b) == JobNets.NONE ? 1 : 0, start ? 0 : 1);
                boolean asked = a >= 1 && a <= x.count(0) && b >= 0 && b <= 1;
                due("mean(" + a + ", " + b + ") is NONE", isNoMean(x, a, b) ? 1 : 0, asked ? 0 : 1);
            }
        }
    }

    private static boolean isNoMean(JobNets x, int job, int side) {
        try {
            return x.mean(job, side) == JobNets.NONE;
        } catch (ArithmeticException e) {
            return false;
        }
    }

    private static void ofNeeds(int state) {
        for (int a : INTS) {
            for (int b : INTS) {
                JobNets x = made(state);
                boolean jobs = a >= 1 && a <= x.count(0) && b >= 1 && b <= x.count(0);
                for (int c : new int[] {Integer.MIN_VALUE, -1, 3, Integer.MAX_VALUE}) {
                    due("needs(" + a + ", " + b + ", " + c + ")", x.needs(a, b, c), JobNets.NONE);
                }
                boolean refused = x.needs(a, b, 0) == JobNets.NONE;
                boolean full = state == 5 && a == 26;
                due("needs(" + a + ", " + b + ", 0) is NONE", refused ? 1 : 0, jobs && !full ? 0 : 1);
            }
        }
    }

    private static void ofDays(int state) {
        for (long day : LONGS) {
            boolean isDay = day >= 0 && day <= 1000000;
            JobNets x = made(state);
            for (int a : INTS) {
                boolean there = a >= 0 && a < x.count(1);
                due("next(" + a + ", " + day + ") is NONE", x.next(a, day) == JobNets.NONE ? 1 : 0,
                    isDay && there ? 0 : 1);
            }
            due("plan(" + day + ") is NONE", x.plan(day) == JobNets.NONE ? 1 : 0, isDay ? 0 : 1);
            boolean room = x.count(2) < 100;
            due("holiday(" + day + ") is NONE", x.holiday(day) == JobNets.NONE ? 1 : 0, isDay && room ? 0 : 1);
        }
    }

    private static void ofTimes(int state) {
        for (long t : LONGS) {
            for (int a : INTS) {
                JobNets x = made(state);
                int found = x.late(t, a);
                due("late(" + t + ", " + a + ") is a job or 0", found >= 0 && found <= x.count(0) ? 1 : 0, 1);
                due("late(" + t + ", " + a + ") of no place is 0", a >= 0 && a < 26 ? 0 : found, 0);
                boolean isTime = t >= x.count(5) && t <= 1000000000;
                boolean runs = x.state(a) == 2;
                for (int kind : new int[] {Integer.MIN_VALUE, -1, 3, Integer.MAX_VALUE}) {
                    due("event(" + a + ", " + kind + ", 0, " + t + ")", x.event(a, kind, 0, t), JobNets.NONE);
                }
                int kind = 1 + (a & 1);
                due("event(" + a + ", " + kind + ", " + a + ", " + t + ") is NONE",
                    x.event(a, kind, a, t) == JobNets.NONE ? 1 : 0, isTime && runs ? 0 : 1);
                due("event(" + a + ", 0, 0, " + t + ") is NONE",
                    x.event(a, 0, 0, t) == JobNets.NONE ? 1 : 0, isTime ? 0 : 1);
            }
        }
    }

    /** What calls behind the 512th answer is free, but they too may neither throw nor fail to end. */
    private static void farBehindTheLastCall() {
        sentence("an object is used for at most 512 calls");
        JobNets x = planned("a0 0 0 1;b1 0 0 1-a;c0 0 0 1-b;");
        for (int i = 0; i < 3000; i++) {
            x.event(1, 1, 0, i);
            x.event(3, 2, 0, i);
            x.rerun(1);
            x.started(i, 0);
        }
        due("it still answers", x.count(0), 3);
    }

    public static void main(String[] args) {
        for (int state = 0; state < STATES; state++) {
            sentence("arguments at their least and greatest, state " + state);
            ofOneInt(state);
            ofTwoInts(state);
            ofNeeds(state);
            ofDays(state);
            ofTimes(state);
        }
        farBehindTheLastCall();
        end();
    }
}
