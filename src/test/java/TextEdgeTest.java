/** The sentences on texts and their faults ('Terms', promises 2 and 3), each with its edges. */
public final class TextEdgeTest extends Checks {
    private static final String[] TOKENS = {
        "a", "12", "0", "7", "999999", "-", "b", "!", "-", "b", "?", "-", "b", ";", "b", "1", "2", "3", "4", ";"};

    private static boolean isBlank(int c) {
        return c == 32 || c == 10;
    }

    private static boolean isSmall(int c) {
        return c >= 'a' && c <= 'z';
    }

    private static boolean isDigit(int c) {
        return c >= '0' && c <= '9';
    }

    private static String times(String s, int n) {
        StringBuilder all = new StringBuilder();
        for (int i = 0; i < n; i++) {
            all.append(s);
        }
        return all.toString();
    }

    /** The tokens with one blank between, and more in front of the gap-th (behind all, when there is none). */
    private static String joined(int gap, String more) {
        StringBuilder s = new StringBuilder();
        for (int i = 0; i < TOKENS.length; i++) {
            s.append(i == gap ? more : "").append(TOKENS[i]).append(' ');
        }
        return s + (gap == TOKENS.length ? more : "");
    }

    private static void blanks() {
        sentence("blanks (32, 10) anywhere between");
        for (int gap = 0; gap <= TOKENS.length; gap++) {
            dueJobs(joined(gap, " "), 2);
            dueJobs(joined(gap, "\n"), 2);
            dueJobs(joined(gap, "\n \n\n  "), 2);
            for (char no : new char[] {0, 9, 11, 12, 13, 31, 160, '_', '.'}) {
                String before = joined(gap, "#");
                dueFault(joined(gap, String.valueOf(no)), before.indexOf('#'));
            }
        }
        dueJobs("", 0);
        dueJobs(" ", 0);
        dueJobs("\n", 0);
        sentence("blanks need not be, but between two numbers");
        dueJobs("a1 2 3 4-b!-b?-b;b1 2 3 4;", 2);
        dueFault("a12 34;", 6);
        sentence("a blank ends a number");
        dueFault("a1 2 3 4 5;", 9);
        dueFault("a1 2 3 99 9999;", 10);
    }

    private static void names() {
        sentence("a NAME (a small letter)");
        for (int c = 0; c < 300; c++) {
            JobNets x = new JobNets();
            x.sign(c);
            due("read() of " + c, x.read(), isBlank(c) ? 0 : isSmall(c) ? -2 : -1);
        }
        for (char c = 'a'; c <= 'z'; c++) {
            dueJobs(c + "0 0 0 0;", 1);
        }
        sentence("no two alike .. also a name that is there already");
        for (char c = 'a'; c <= 'z'; c++) {
            dueFault(c + "0 0 0 0;" + c + "0 0 0 0;", 9);
        }
        dueFault("a0 0 0 0;b0 0 0 0; a", 19);
        dueFault("a0 0 0 0;b0 0 0 0;b!", 18);
        dueJobs("b0 0 0 0;a0 0 0 0;", 2);
    }

    private static String withNumber(int which, String number) {
        StringBuilder s = new StringBuilder("a");
        for (int i = 0; i < 4; i++) {
            s.append(i == which ? number : "5").append(i < 3 ? " " : ";");
        }
        return s.toString();
    }

    private static void numbers() {
        sentence("four NUMBERS (one to six digits each) .. a number's seventh digit");
        for (int which = 0; which < 4; which++) {
            int begin = 1 + 2 * which;
            dueJobs(withNumber(which, "0"), 1);
            dueJobs(withNumber(which, "9"), 1);
            dueJobs(withNumber(which, "000000"), 1);
            dueJobs(withNumber(which, "999999"), 1);
            dueFault(withNumber(which, "0000000"), begin + 6);
            dueFault(withNumber(which, "9999999"), begin + 6);
            dueFault(withNumber(which, "99999999999999999999"), begin + 6);
            dueFault(withNumber(which, "1234567!"), begin + 6);
        }
        sentence("four NUMBERS");
        dueFault("a;", 1);
        dueFault("a1;", 2);
        dueFault("a1 2;", 4);
        dueFault("a1 2 3;", 6);
        dueFault("a1 2 3 4 5;", 9);
        dueFault("a-a;", 1);
        dueFault("a1 2 3-a;", 6);
        sentence("digits are 0 .. 9");
        for (int c = 0; c < 300; c++) {
            JobNets x = new JobNets();
            x.sign('a');
            x.sign(c);
            due("read() of a and " + c, x.read(), isBlank(c) || isDigit(c) ? -3 : -2);
        }
        dueFault("a+1 2 3 4;", 1);
        dueFault("a-1 2 3 4;", 1);
        dueFault("a1.5 2 3 4;", 2);
    }

    private static void orderOfNumbers() {
        sentence("a calendar, a priority, a start (minutes), an estimate");
        JobNets x = new JobNets();
        x.calendar(0, 3);
        read(x, "a000001 000000 0 0;b0 999998 0 0;c0 999999 0 000009;d0 0 999999 999999;");
        due("day 0, not a's", x.plan(0), 3);
        due("day 3, a's", x.plan(3), 4);
        same("by priority", starts(x), "3@0 2@0 1@0");
        due("d not yet", x.event(0, 0, 0, 999998), 0);
        same("c's estimate is 9", late(x, 9), "1 2");
        same("c's estimate is 9", late(x, 10), "1 2 3");
        due("d", x.event(0, 0, 0, 999999), 1);
        same("d's estimate", late(x, 999999 + 999999), "1 2 3");
        same("d's estimate", late(x, 999999 + 999999 + 1), "1 2 3 4");
    }

    private static void needs() {
        sentence("each - and the name");
        for (int c = 0; c < 256; c++) {
            boolean goesOn = isBlank(c) || isSmall(c);
            dueFault("a1 2 3 4-" + (char) c, goesOn ? 10 : 9);
        }
        dueFault("a1 2 3 4--b;b1 2 3 4;", 9);
        dueFault("a1 2 3 4-;", 9);
        dueFault("a1 2 3 4b;b1 2 3 4;", 8);
        sentence("perhaps ! or ? behind it");
        for (int c = 0; c < 256; c++) {
            boolean goesOn = isBlank(c) || c == '!' || c == '?' || c == '-';
            dueFault("a1 2 3 4-b" + (char) c, c == ';' ? 9 : goesOn ? 11 : 10);
        }
        for (String mark : new String[] {"!", "?"}) {
            for (int c = 0; c < 256; c++) {
                boolean goesOn = isBlank(c) || c == '-';
                dueFault("a1 2 3 4-b" + mark + (char) c, c == ';' ? 9 : goesOn ? 12 : 11);
            }
        }
        dueFault("a1 2 3 4!;", 8);
        dueFault("a1 2 3 4?;", 8);
        dueFault("a1 2 3 4-!b;b1 2 3 4;", 9);
        sentence("the name of any job of the text");
        dueJobs("a1 2 3 4-b;b1 2 3 4;", 2);
        dueJobs("b1 2 3 4;a1 2 3 4-b;", 2);
        dueJobs("a1 2 3 4-z;m1 2 3 4;z1 2 3 4-m;", 3);
        sentence("then ;");
        for (int c = 0; c < 256; c++) {
            boolean goesOn = isBlank(c) || isDigit(c) || c == '-';
            int answer = c == ';' ? 1 : goesOn ? -10 : -9;
            due("read() behind four numbers of " + c, read(new JobNets(), "a1 2 3 4" + (char) c), answer);
        }
        dueFault("a1 2 3 4;;", 9);
        dueFault("a1 2 3 4 b1 2 3 4;", 9);
    }

    private static void conditions() {
        sentence("! (it must have failed) or ? (it must have ended or failed), else it must have ended");
        String text = "a0 0 0 1;b0 0 0 1-a;c0 0 0 1-a!;d0 0 0 1-a?;e0 0 0 1 - a ! - a ;f0 0 0 1-a?-a!;";
        JobNets x = planned(text);
        same("a runs", states(x), "211111");
        due("ended", x.event(1, 1, 0, 1), 2);
        same("a ended", states(x), "321211");
        JobNets y = planned(text);
        due("failed", y.event(1, 2, 0, 1), 3);
        same("a failed", states(y), "412212");
    }

    private static String letters(String behindEach) {
        StringBuilder s = new StringBuilder();
        for (char c = 'a'; c <= 'z'; c++) {
            s.append(c).append("0 0 0 0").append(c == 'z' ? "" : behindEach).append(';');
        }
        return s.toString();
    }

    private static void most() {
        sentence("at most 26 jobs");
        String all = letters("");
        dueJobs(all, 26);
        for (int c = 0; c < 256; c++) {
            due("read() of 26 jobs and " + c, read(new JobNets(), all + (char) c),
                isBlank(c) ? 26 : -1 - all.length());
        }
        JobNets x = net(all);
        due("job 26", x.state(26), 0);
        due("job 27", x.state(27), JobNets.NONE);
        sentence("JOBS are numbered from 1 on, in their order");
        JobNets y = net("z0 0 5 0;c0 0 0 0;m0 0 5 0;");
        y.plan(0);
        same("c is 2", states(y), "121");
        sentence("at most 20 needs each");
        String full = times("-z", 20);
        dueJobs(letters(full), 26);
        dueJobs("z0 0 0 0;a0 0 0 0" + times(" - z ?", 10) + times("-z!", 10) + ";", 2);
        dueJobs("z0 0 0 0;a0 0 0 0" + full + ";", 2);
        sentence("a 21st need's -");
        dueFault("z0 0 0 0;a0 0 0 0" + full + "-z;", 57);
        dueFault("z0 0 0 0;a0 0 0 0" + full + "\n-", 58);
        dueFault("z0 0 0 0;a0 0 0 0" + full + "-Z", 57);
        dueFault("z0 0 0 0;a0 0 0 0" + times("-z?", 20) + "-z;", 77);
        dueFault("z0 0 0 0;a0 0 0 0" + full + ";b0 0 0 0" + full + "-z;", 106);
        dueFault("a0 0 0 0" + times("-q", 20) + "-q;", 48);
    }

    private static void length() {
        sentence("text of 2000 characters; the 2001st and more are lost");
        String job = "a1 2 3 4;";
        JobNets x = new JobNets();
        write(x, times(" ", 2000 - job.length()) + job + "!");
        due("2001, the last lost", x.read(), 1);
        write(x, times(" ", 2000 - job.length()) + job + times("b", 600));
        due("2600, 600 lost", x.read(), 1);
        write(x, times(" ", 2001 - job.length()) + job);
        due("the ; is lost", x.read(), -2001);
        write(x, times("\n", 1999) + "!");
        due("the 2000th is there", x.read(), -2000);
        write(x, times("\n", 2000) + "!");
        due("only the 2001st is wrong", x.read(), 0);
        write(x, times(" ", 2001));
        due("lost ones don't come later", x.read(), 0);
        due("lost ones don't come later", read(x, job), 1);
        write(x, "a1 2 3 4-a;" + times(" ", 2100));
        due("a ring is told at the end of 2000", x.read(), -2001);
        write(x, times(" ", 1991) + "a1 2 3 4-b;");
        due("the end where more must come, at 2000", x.read(), -2001);
    }

    private static void first() {
        sentence("the first character that can't be there is the FAULT");
        dueFault("A!", 0);
        dueFault("a1 2 3 4;B a a", 9);
        dueFault("a1 2 3 4-b;a1 2 3 4-c;", 11);
        dueFault("a1234567 !", 7);
        dueFault("a1 2 3 4-a;b1 2 3 4-b;!", 22);
        dueFault("a1 2 3 4;?a", 9);
        sentence("one in a need that is none of the text (told when all else is right: the first one)");
        dueFault("a1 2 3 4-b;", 9);
        dueFault("a1 2 3 4 - \n b ! ;", 13);
        dueFault("a1 2 3 4-c-b;b1 2 3 4-d;", 9);
        dueFault("a1 2 3 4-b-c;b1 2 3 4-d;", 11);
        dueFault("a1 2 3 4-b;b1 2 3 4-d;", 20);
        dueFault("a1 2 3 4-c;b1 2 3 4", 19);
        dueFault("a1 2 3 4-c;b1 2 3 4;b", 20);
        dueFault("a1 2 3 4-c;b1 2 3 4-", 20);
        dueFault("a1 2 3 4-c;b1 2 3 4567890;", 24);
        dueFault("a1 2 3 4-c;!", 11);
        dueFault("a1 2 3 4-c" + times("-a", 20) + ";", 48);
        sentence("the end where more must come");
        String whole = " a 12 3 4 5 - b ! -b?-b ; \n b123456 0 0 0 ; c 1 2 3 4-a;\n";
        for (int end = 0; end <= whole.length(); end++) {
            String begun = whole.substring(0, end);
            String right = begun.trim();
            boolean ends = right.isEmpty() || right.endsWith(";");
            int jobs = begun.length() - begun.replace(";", "").length();
            // a's needs of b, till b is there, are the only other fault.
            int place = !ends ? end : jobs == 1 ? 14 : 0;
            due("read() of [" + begun + "]", read(new JobNets(), begun), place > 0 ? -1 - place : jobs);
        }
    }

    private static void rings() {
        sentence("a text whose needs make a RING (a job that needs itself, at any depth) is faulty at its end");
        dueFault("a1 2 3 4-a;", 11);
        dueFault("a1 2 3 4-a!;", 12);
        dueFault("a1 2 3 4-a?; \n", 14);
        dueFault("a1 2 3 4-b;b1 2 3 4-a;", 22);
        dueFault("a1 2 3 4;b1 2 3 4-b;c1 2 3 4;", 29);
        dueFault("a1 2 3 4-b!;b1 2 3 4-c?;c1 2 3 4-a;d1 2 3 4-a;", 46);
        StringBuilder round = new StringBuilder();
        for (char c = 'a'; c <= 'z'; c++) {
            round.append(c).append("0 0 0 0-").append(c == 'z' ? 'a' : (char) (c + 1)).append(';');
        }
        dueFault(round.toString(), 26 * 11);
        String chain = round.substring(0, 25 * 11) + "z0 0 0 0;";
        dueJobs(chain, 26);
        dueFault(chain.replace("z0 0 0 0;", "z0 0 0 0-m;"), 26 * 11);
        sentence("two ways to a job are no ring");
        dueJobs("a1 2 3 4-b-c;b1 2 3 4-d;c1 2 3 4-d-b;d1 2 3 4;", 4);
    }

    private static JobNets busy() {
        JobNets x = new JobNets();
        x.calendar(3, 1);
        x.holiday(3);
        read(x, "a0 0 0 5;b0 0 9 5-a;c0 0 0 2;d1 0 0 9;");
        x.plan(0);
        x.event(1, 1, 0, 7);
        x.needs(1, 2, 0);
        return x;
    }

    private static void readOnce() {
        sentence("the text (which is empty then) is read");
        JobNets x = new JobNets();
        due("one", read(x, "a1 2 3 4;"), 1);
        due("none", x.read(), 0);
        due("a fault", read(x, "a1 2"), -5);
        due("a fault leaves no text", x.read(), 0);
        due("a ring", read(x, "a1 2 3 4-a;"), -12);
        due("a ring leaves no text", read(x, " b1 2 3 4;"), 1);
        due("a name that is none", read(x, "a1 2 3 4-b;"), -10);
        due("a name that is none leaves no text", read(x, "b1 2 3 4;"), 1);
        sentence("how many jobs, which are the only ones now");
        due("three", read(x, "a1 2 3 4;b1 2 3 4;c1 2 3 4-a;"), 3);
        due("one", read(x, "c1 2 3 4;"), 1);
        due("jobs", x.count(0), 1);
        due("job 1", x.state(1), 0);
        due("job 2", x.state(2), JobNets.NONE);
        due("needs of it", x.needs(2, 1, 0), JobNets.NONE);
        due("three again", read(x, "a0 2 0 4;b0 2 0 4;c0 2 0 4;"), 3);
        due("plan", x.plan(0), 3);
        same("needs are new", states(x), "222");
        due("none", x.read(), 0);
        due("jobs", x.count(0), 0);
        due("plan", x.plan(0), 0);
    }

    private static void readAnew() {
        sentence("without a plan, starts and kept times");
        JobNets x = busy();
        due("read()", read(x, "a0 0 0 5;b0 0 0 5;"), 2);
        same("states", states(x), "00");
        due("in the plan", x.count(4), 0);
        due("running", x.count(7), 0);
        due("starts", x.count(3), 0);
        due("start 0", x.started(0, 0), JobNets.NONE);
        due("start 0", x.started(0, 1), JobNets.NONE);
        dueNoMean("mean", x, 1, 0);
        dueNoMean("mean", x, 2, 1);
        same("critical", critical(x), "");
        same("late", late(x, 1000), "");
        due("an event starts none", x.event(0, 0, 0, 50), 0);
        due("none runs", x.event(1, 1, 0, 50), JobNets.NONE);
        due("rerun", x.rerun(1), 0);
        due("calendars stay", x.count(1), 2);
        due("holidays stay", x.count(2), 1);
        x.plan(0);
        same("times are kept of new ones", late(x, 6), "1 2");
        x.event(1, 1, 0, 3);
        same("times are kept of new ones", means(x), "3+0 none");
    }

    private static void readFaulty() {
        String[] faults = {"A", "a", "a1234567", "a1 2 3 4;a", "a1 2 3 4-b;", "b1 2 3 4;b", "a1 2 3 4-a-q;",
            "a1 2 3 4" + times("-b", 21), letters("") + "a", "z0 0 0 0;y0 0 0 0;x0 0 0 0;w0 0 0 0;v0 0 0 0"};
        sentence("-1 minus the fault's place, changing nothing");
        for (String fault : faults) {
            JobNets x = busy();
            String before = all(x);
            due("read() is below 0", read(x, fault) < 0 ? 1 : 0, 1);
            same("behind [" + fault + "]", all(x), before);
            x.event(3, 1, 0, 9);
            same("the net goes on", states(x), "3230");
        }
        sentence("changing nothing (but the ring)");
        JobNets x = busy();
        String before = allButRing(x);
        same("ring before", ring(x), "2 1");
        due("read()", read(x, "a1 2 3 4;b1 2 3 4;c1 2 3 4-d;d1 2 3 4-c;"), -41);
        same("all but the ring", allButRing(x), before);
        same("ring", ring(x), "4 3");
        x.event(3, 1, 0, 9);
        same("the net goes on", states(x), "3230");
    }

    public static void main(String[] args) {
        blanks();
        names();
        numbers();
        orderOfNumbers();
        needs();
        conditions();
        most();
        length();
        first();
        rings();
        readOnce();
        readAnew();
        readFaulty();
        end();
    }
}
