import java.util.ArrayList;
import java.util.List;

/** The sentences on days, calendars and holidays ('Terms', promises 4, 5 and 7), each with its edges. */
public final class CalendarEdgeTest extends Checks {
    private static final int LAST = 1000000;

    private static JobNets with(int rule, int a, long... holidays) {
        JobNets x = new JobNets();
        due("calendar(" + rule + ", " + a + ")", x.calendar(rule, a), 1);
        for (long day : holidays) {
            x.holiday(day);
        }
        return x;
    }

    /** The days of calendar 1 from one on to before another, as next() tells them. */
    private static String days(JobNets x, long from, long to) {
        List<Long> all = new ArrayList<>();
        for (long d = from; d < to; d++) {
            if (x.next(1, d) == d) {
                all.add(d);
            }
        }
        return all.toString();
    }

    private static void eachWeek() {
        sentence("0 days that are the a-th (0 .. 6) of their week");
        for (int a = 0; a <= 6; a++) {
            List<Integer> want = new ArrayList<>();
            for (int d = a; d < 140; d += 7) {
                want.add(d);
            }
            same("days, a = " + a, days(with(0, a), 0, 140), want.toString());
        }
        same("also holidays", days(with(0, 2, 2, 9), 0, 20), "[2, 9, 16]");
        same("also at the end", days(with(0, 1), LAST - 7, LAST + 1), "[999993, 1000000]");
    }

    private static void workDays() {
        sentence("a WORK DAY is one of the first five of its week and no HOLIDAY");
        same("days 0 .. 15", days(with(3, 30), 0, 16), "[0, 1, 2, 3, 4, 7, 8, 9, 10, 11, 14, 15]");
        same("holidays", days(with(3, 30, 0, 4, 5, 7, 13), 0, 16), "[1, 2, 3, 8, 9, 10, 11, 14, 15]");
        JobNets x = with(3, 30, 4, 8);
        x.holiday(4);
        same("a holiday no more", days(x, 0, 10), "[0, 1, 2, 3, 4, 7, 9]");
    }

    private static void nthWorkDay() {
        sentence("1 the a-th work day (1 .. 30) of each month");
        String[] want = {"", "[0, 30, 60]", "[1, 31, 63]", "[2, 32, 64]", "[3, 35, 65]", "[4, 36, 66]"};
        for (int a = 1; a <= 5; a++) {
            same("days, a = " + a, days(with(1, a), 0, 90), want[a]);
        }
        same("the 20th", days(with(1, 20), 0, 90), "[25, 57, 87]");
        same("the 21st", days(with(1, 21), 0, 90), "[28, 58, 88]");
        same("the 22nd, that the third and fourth have not", days(with(1, 22), 0, 150), "[29, 59, 149]");
        for (int a = 23; a <= 30; a++) {
            due("no month has so many, a = " + a, with(1, a).next(1, 0), JobNets.NONE);
        }
        same("a holiday is none", days(with(1, 1, 0, 31), 0, 60), "[1, 30]");
        same("a holiday at an end of a week moves none", days(with(1, 6, 5, 6), 0, 30), "[7]");
        same("a holiday behind moves none", days(with(1, 1, 1), 0, 30), "[0]");
        same("a holiday of the month before moves none", days(with(1, 1, 29), 0, 60), "[0, 30]");
        long[] month = new long[30];
        for (int i = 0; i < 30; i++) {
            month[i] = i;
        }
        same("a month of holidays has no work day", days(with(1, 1, month), 0, 60), "[30]");
    }

    private static void lastInMonth() {
        sentence("2 the a-th (0 .. 6) of the week that is the last one in its month");
        int[][] want = {{28, 56, 84}, {29, 57, 85}, {23, 58, 86}, {24, 59, 87}, {25, 53, 88}, {26, 54, 89}, {27, 55, 83}};
        for (int a = 0; a <= 6; a++) {
            List<Integer> row = List.of(want[a][0], want[a][1], want[a][2]);
            same("days, a = " + a, days(with(2, a), 0, 90), row.toString());
        }
        same("also a holiday", days(with(2, 0, 28), 0, 30), "[28]");
    }

    private static void workDaysBut() {
        sentence("3 all work days, but those that are the a-th (1 .. 30) day of their month");
        for (int a = 1; a <= 30; a++) {
            List<Integer> want = new ArrayList<>();
            for (int d = 0; d < 60; d++) {
                if (d % 7 < 5 && d != a - 1 && d != 30 + a - 1) {
                    want.add(d);
                }
            }
            same("days, a = " + a, days(with(3, a), 0, 60), want.toString());
        }
    }

    private static void notThere() {
        sentence("0 has all days");
        JobNets x = new JobNets();
        for (long day : new long[] {0, 5, 6, 29, 30, LAST - 1, LAST}) {
            due("next(0, " + day + ")", x.next(0, day), day);
        }
        x.holiday(5);
        due("a holiday too", x.next(0, 5), 5);
        sentence("a calendar that isn't there has no day");
        for (int calendar : new int[] {1, 2, 19, 20, 21, LAST, -1, Integer.MAX_VALUE, Integer.MIN_VALUE}) {
            due("next(" + calendar + ", 0)", x.next(calendar, 0), JobNets.NONE);
        }
        JobNets y = with(0, 0);
        due("one behind the last", y.next(2, 0), JobNets.NONE);
        read(y, "a0 0 0 0;b1 0 0 0;c2 0 0 0;d20 0 0 0;e999999 0 0 0;");
        due("plan(0)", y.plan(0), 2);
        same("jobs of calendars that aren't there are out", states(y), "22000");
        due("calendar 2", y.calendar(0, 0), 2);
        same("a calendar that comes changes no plan", states(y), "22000");
        due("plan(0)", y.plan(0), 3);
        same("it is there now", states(y), "22200");
    }

    private static void calendar() {
        sentence("a new calendar: its number");
        JobNets x = new JobNets();
        due("first", x.calendar(0, 0), 1);
        due("a like one", x.calendar(0, 0), 2);
        sentence("NONE when the rule or a is not so");
        for (int rule : new int[] {-1, 4, 5, Integer.MIN_VALUE, Integer.MAX_VALUE}) {
            due("calendar(" + rule + ", 1)", x.calendar(rule, 1), JobNets.NONE);
        }
        int[] least = {0, 1, 0, 1};
        int[] most = {6, 30, 6, 30};
        for (int rule = 0; rule < 4; rule++) {
            for (int a : new int[] {least[rule] - 1, most[rule] + 1, -1, 31, Integer.MIN_VALUE, Integer.MAX_VALUE}) {
                due("calendar(" + rule + ", " + a + ")", x.calendar(rule, a), JobNets.NONE);
            }
        }
        due("refused ones are not there", x.count(1), 3);
        due("refused ones took no number", x.calendar(0, least[0]), 3);
        due("the most of rule 0", x.calendar(0, most[0]), 4);
        for (int rule = 1; rule < 4; rule++) {
            due("the least of rule " + rule, x.calendar(rule, least[rule]), 3 + 2 * rule);
            due("the most of rule " + rule, x.calendar(rule, most[rule]), 4 + 2 * rule);
        }
        sentence("NONE when there are 20");
        for (int i = 11; i <= 19; i++) {
            due("one more", x.calendar(1, i), i);
        }
        due("there are 20, with 0", x.count(1), 20);
        due("one more", x.calendar(1, 1), JobNets.NONE);
        due("there are 20, with 0", x.count(1), 20);
        due("a wrong one", x.calendar(4, 1), JobNets.NONE);
        due("calendar 20", x.next(20, 0), JobNets.NONE);
        due("the last one is as it was", x.next(19, 0), 24);
        due("the first one is as it was", x.next(1, 1), 7);
    }

    private static void holiday() {
        sentence("a day is a holiday, or, if it was, is none any more: how many there are");
        JobNets x = with(3, 30);
        due("first", x.holiday(3), 1);
        due("second", x.holiday(1), 2);
        due("third", x.holiday(2), 3);
        due("the second goes", x.holiday(1), 2);
        due("it is none any more", x.next(1, 1), 1);
        due("the others still are", x.next(1, 2), 4);
        due("again", x.holiday(1), 3);
        due("it is one again", x.next(1, 1), 4);
        for (int left = 2; left >= 0; left--) {
            due("all go", x.holiday(1 + left), left);
        }
        due("none", x.count(2), 0);
        sentence("NONE when it is below 0 or above 1000000");
        for (long day : new long[] {-1, LAST + 1, Long.MIN_VALUE, Long.MAX_VALUE, 1L << 32, (1L << 32) + 5, -1L << 32}) {
            due("holiday(" + day + ")", x.holiday(day), JobNets.NONE);
        }
        due("none", x.count(2), 0);
        due("the least", x.holiday(0), 1);
        due("the greatest", x.holiday(LAST), 2);
        due("the greatest is one", x.next(1, LAST), LAST + 1);
    }

    private static void fullOfHolidays() {
        sentence("NONE when there are 100");
        JobNets x = with(3, 30);
        for (int i = 1; i <= 99; i++) {
            due("one more", x.holiday(i), i);
        }
        due("one of 99 goes", x.holiday(50), 98);
        due("and comes", x.holiday(50), 99);
        due("the 100th", x.holiday(0), 100);
        due("one more", x.holiday(100), JobNets.NONE);
        due("one of them", x.holiday(50), JobNets.NONE);
        due("the last of them", x.holiday(0), JobNets.NONE);
        due("a wrong one", x.holiday(-1), JobNets.NONE);
        due("there are 100", x.count(2), 100);
        due("they are as they were", x.next(1, 0), 100);
    }

    private static void next() {
        sentence("the first day of a calendar, from a day on");
        JobNets x = with(0, 3);
        due("the day itself", x.next(1, 3), 3);
        due("the day before", x.next(1, 2), 3);
        due("the day behind", x.next(1, 4), 10);
        sentence("NONE when day is below 0 or above 1000000");
        for (long day : new long[] {-1, LAST + 1, Long.MIN_VALUE, Long.MAX_VALUE, (1L << 32) + 3, -1L << 32}) {
            due("next(0, " + day + ")", x.next(0, day), JobNets.NONE);
            due("next(1, " + day + ")", x.next(1, day), JobNets.NONE);
        }
        due("the least", x.next(1, 0), 3);
        due("the greatest", x.next(0, LAST), LAST);
        due("from the greatest on", x.next(1, LAST), LAST + 2);
    }

    /** First days of weeks, so that each takes one work day from its month. */
    private static void takeAWorkDayFromMonths(JobNets x, int from, int to) {
        for (int month = from; month < to; month++) {
            x.holiday((month * 30 + 6) / 7 * 7);
        }
    }

    private static void reach() {
        sentence("at most 400 days behind it; NONE when there is none");
        // No month has more than 22 work days, so one holiday takes the 22nd.
        JobNets x = with(1, 22);
        takeAWorkDayFromMonths(x, 0, 14);
        long first = x.next(1, 30 * 14);
        due("that of month 14 or later", first >= 30 * 14 ? 1 : 0, 1);
        due("399 days behind", x.next(1, first - 399), first);
        due("400 days behind", x.next(1, first - 400), first);
        due("401 days behind", x.next(1, first - 401), JobNets.NONE);
        due("from 0 on", x.next(1, 0), JobNets.NONE);
        JobNets y = with(1, 22);
        takeAWorkDayFromMonths(y, LAST / 30, LAST / 30 + 1);
        long last = y.next(1, LAST);
        due("behind the last day's month", last > LAST && last <= LAST + 400 ? 1 : 0, 1);
    }

    public static void main(String[] args) {
        eachWeek();
        workDays();
        nthWorkDay();
        lastInMonth();
        workDaysBut();
        notThere();
        calendar();
        holiday();
        fullOfHolidays();
        next();
        reach();
        end();
    }
}
