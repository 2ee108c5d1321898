/** For each promise of the document: ordinary inputs, the edges that it names, wrong inputs. */
public final class PromiseTest extends Checks {
    private static void promise1() {
        JobNets x = new JobNets();
        int[] counts = {0, 1, 0, 0, 0, 0, 0, 0};
        for (int what = 0; what < counts.length; what++) {
            due("1: count(" + what + ")", x.count(what), counts[what]);
        }
        due("1: next of calendar 0", x.next(0, 6), 6);
        due("1: next of calendar 1", x.next(1, 6), JobNets.NONE);
        due("1: state", x.state(1), JobNets.NONE);
        due("1: ring", x.ring(0), 0);
        due("1: critical", x.critical(0), 0);
        due("1: late", x.late(5, 0), 0);
        due("1: event", x.event(0, 0, 0, 0), 0);
    }

    private static void promise2() {
        JobNets x = new JobNets();
        write(x, "a 1 2 3 4;");
        for (int i = 0; i < 1990; i++) {
            x.sign(' ');
        }
        x.sign('!');
        due("2: the 2001st is lost", x.read(), 1);
        for (int i = 0; i < 2000; i++) {
            x.sign(10);
        }
        x.sign('a');
        due("2: 2000 blanks", x.read(), 0);
        for (int i = 0; i < 1999; i++) {
            x.sign(' ');
        }
        x.sign('!');
        due("2: the 2000th is not lost", x.read(), -2000);
        x.sign('a' + 65536);
        due("2: no letter, though its low bits are one", x.read(), -1);
        x.sign(Integer.MIN_VALUE);
        due("2: below 0", x.read(), -1);
    }

    private static void promise3Right() {
        JobNets x = new JobNets();
        due("3: empty", x.read(), 0);
        due("3: one", read(x, "z0 0 0 0;"), 1);
        String round = " \n a\n000001 2\n3 999999 - \nb \n! \n;b1 1 1 1- a ? ; ";
        due("3: blanks, and a ring", read(x, round), -1 - round.length());
        due("3: blanks", read(x, " \n a\n000001 2\n3 999999 - \nb \n! \n;b1 1 1 1 ; "), 2);
        due("3: the only ones", x.count(0), 2);
        StringBuilder all = new StringBuilder();
        for (char c = 'a'; c <= 'z'; c++) {
            all.append(c).append("0 0 0 0;");
        }
        due("3: 26 jobs", read(x, all.toString()), 26);
        due("3: a 27th", read(x, all + " a"), -1 - (all.length() + 1));
        due("3: a 27th", read(x, all + "A"), -1 - all.length());
        StringBuilder many = new StringBuilder("b0 0 0 0;a0 0 0 0");
        for (int i = 0; i < 20; i++) {
            many.append("-b");
        }
        due("3: 20 needs", read(x, many + ";"), 2);
        due("3: a 21st", read(x, many + "-b;"), -1 - many.length());
        due("3: a 21st", read(x, many + " -"), -1 - (many.length() + 1));
    }

    private static void promise3Faults() {
        dueFault("A", 0);
        dueFault("\t", 0);
        dueFault("1", 0);
        dueFault(" ;", 1);
        dueFault("a", 1);
        dueFault("a  ", 3);
        dueFault("ab", 1);
        dueFault("a-", 1);
        dueFault("a 1 2 3", 7);
        dueFault("a 1 2 3;", 7);
        dueFault("a 1 2 3 -", 8);
        dueFault("a 1 2 3 4", 9);
        dueFault("a 1 2 3 4 5;", 10);
        dueFault("a 1 2 3 123456;b0 0 0 1234567", 28);
        dueFault("a1234567", 7);
        dueFault("a 1 2 3 4!;", 9);
        dueFault("a 1 2 3 4-;", 10);
        dueFault("a 1 2 3 4-B;", 10);
        dueFault("a 1 2 3 4-b!!;b 1 2 3 4;", 12);
        dueFault("a 1 2 3 4-b!?;", 12);
        dueFault("a 1 2 3 4-bc;", 11);
        dueFault("a 1 2 3 4-b", 11);
        dueFault("a 1 2 3 4;a 1 2 3 4;", 10);
        dueFault("a 1 2 3 4-q;a", 12);
        dueFault("a 1 2 3 4-q;b 1", 15);
        dueFault("a 1 2 3 4-b-q-r;b 1 2 3 4-s;", 12);
        dueFault("a 1 2 3 4-a-q;", 12);
        dueFault("a 1 2 3 4-a;", 12);
        dueFault("a 1 2 3 4-a;  ", 14);
        dueFault("a 1 2 3 4-b;b 1 2 3 4-c;c 1 2 3 4-a?;\n", 38);
    }

    private static void promise3Changes() {
        JobNets x = net("a0 0 0 5;b0 0 9 5-a;");
        x.calendar(0, 1);
        x.holiday(3);
        x.plan(0);
        x.event(1, 1, 0, 7);
        due("3: a fault", read(x, "a0 0 0"), -7);
        due("3: nothing changed, jobs", x.count(0), 2);
        due("3: nothing changed, starts", x.count(3), 1);
        same("3: nothing changed, states", states(x), "31");
        due("3: nothing changed, mean", x.mean(1, 0), 7);
        due("3: the text is empty then", read(x, "c0 0 0 1-c;"), -12);
        same("3: nothing changed but the ring", states(x) + " " + ring(x), "31 1");
        due("3: new jobs", read(x, "b0 0 0 5;a0 0 0 5;c0 0 0 5;"), 3);
        due("3: no plan", x.count(4), 0);
        same("3: all out", states(x), "000");
        due("3: no starts", x.count(3), 0);
        due("3: no starts", x.started(0, 0), JobNets.NONE);
        dueNoMean("3: no kept times", x, 1, 0);
        due("3: calendars stay", x.count(1), 2);
        due("3: holidays stay", x.count(2), 1);
        due("3: the ring stays", x.count(6), 1);
        due("3: the time stays", x.count(5), 7);
        due("3: jobs go", x.read(), 0);
        due("3: jobs go", x.count(0), 0);
    }

    private static void promise4() {
        int[][] not = {{-1, 1}, {4, 1}, {0, -1}, {0, 7}, {1, 0}, {1, 31}, {2, -1}, {2, 7}, {3, 0}, {3, 31},
            {Integer.MIN_VALUE, 1}, {Integer.MAX_VALUE, 1}, {0, Integer.MIN_VALUE}, {1, Integer.MAX_VALUE}};
        int[][] so = {{0, 0}, {0, 6}, {1, 1}, {1, 30}, {2, 0}, {2, 6}, {3, 1}, {3, 30}};
        JobNets x = new JobNets();
        for (int[] c : not) {
            due("4: calendar(" + c[0] + ", " + c[1] + ")", x.calendar(c[0], c[1]), JobNets.NONE);
        }
        for (int i = 0; i < so.length; i++) {
            due("4: calendar(" + so[i][0] + ", " + so[i][1] + ")", x.calendar(so[i][0], so[i][1]), i + 1);
        }
        for (int i = so.length + 1; i < 20; i++) {
            due("4: calendar", x.calendar(0, i % 7), i);
        }
        due("4: there are 20, with 0", x.count(1), 20);
        due("4: there are 20, with 0", x.calendar(0, 0), JobNets.NONE);
        due("4: the last one", x.next(19, 0), 19 % 7);
        due("4: none made", x.count(1), 20);
    }

    private static void promise5() {
        JobNets x = new JobNets();
        due("5: first", x.holiday(0), 1);
        due("5: last", x.holiday(1000000), 2);
        due("5: none any more", x.holiday(0), 1);
        due("5: again", x.holiday(0), 2);
        due("5: below", x.holiday(-1), JobNets.NONE);
        due("5: above", x.holiday(1000001), JobNets.NONE);
        due("5: far above", x.holiday(1L << 32), JobNets.NONE);
        due("5: far below", x.holiday(Long.MIN_VALUE), JobNets.NONE);
        for (int i = 3; i <= 100; i++) {
            due("5: holiday", x.holiday(i), i);
        }
        due("5: there are 100", x.holiday(500), JobNets.NONE);
        due("5: there are 100, of which it is one", x.holiday(50), JobNets.NONE);
        due("5: there are 100", x.count(2), 100);
    }

    private static void promise6() {
        JobNets x = net("a0 0 0 1;b0 0 0 1;c0 0 0 1;");
        due("6: ended", x.needs(2, 1, 0), 1);
        due("6: failed", x.needs(3, 1, 1), 1);
        due("6: either", x.needs(3, 2, 2), 1);
        due("6: itself", x.needs(2, 2, 0), 0);
        due("6: ring", x.needs(1, 2, 0), 0);
        due("6: ring at a depth", x.needs(1, 3, 2), 0);
        int[][] not = {{0, 1, 0}, {4, 1, 0}, {1, 0, 0}, {1, 4, 0}, {-1, 1, 0}, {1, -1, 0}, {3, 1, -1}, {3, 1, 3},
            {Integer.MAX_VALUE, 1, 0}, {1, Integer.MIN_VALUE, 0}, {2, 2, 3}};
        for (int[] n : not) {
            due("6: needs(" + n[0] + ", " + n[1] + ", " + n[2] + ")", x.needs(n[0], n[1], n[2]), JobNets.NONE);
        }
        x.plan(0);
        same("6: refused ones are no needs", states(x), "211");
        x.event(1, 1, 0, 1);
        same("6: b needed a ended", states(x), "321");
        x.event(2, 2, 0, 1);
        same("6: c needs a failed too", states(x), "341");
        x.rerun(1);
        x.event(1, 2, 0, 2);
        same("6: b needs a ended", states(x), "411");
        for (int i = 1; i < 20; i++) {
            due("6: one more", x.needs(2, 1, 2), 1);
        }
        due("6: it has 20", x.needs(2, 1, 2), JobNets.NONE);
        due("6: it has 20, though a ring", x.needs(2, 2, 2), JobNets.NONE);
        JobNets y = net("a0 0 0 1;b0 0 5 1;");
        y.plan(0);
        y.needs(2, 1, 0);
        due("6: a need that came in the plan", y.event(0, 0, 0, 9), 0);
        due("6: a need that came in the plan", y.event(1, 1, 0, 9), 1);
    }

    private static void promise7() {
        JobNets x = new JobNets();
        x.calendar(0, 0);
        x.calendar(1, 22);
        x.calendar(2, 1);
        x.calendar(3, 30);
        x.calendar(1, 23);
        x.calendar(2, 2);
        due("7: a week before the next month's first", x.next(6, 0), 23);
        due("7: 0 has all", x.next(0, 5), 5);
        due("7: each week", x.next(1, 0), 0);
        due("7: each week", x.next(1, 1), 7);
        due("7: 22nd work day", x.next(2, 0), 29);
        due("7: 22nd work day, at the start of a 21 work days' month", x.next(2, 30), 59);
        due("7: from its day on", x.next(2, 59), 59);
        due("7: last second day of week", x.next(3, 0), 29);
        due("7: last second day of week, next month", x.next(3, 30), 57);
        due("7: work days but the 30th", x.next(4, 29), 30);
        due("7: no work days", x.next(4, 5), 7);
        due("7: no such day ever", x.next(5, 0), JobNets.NONE);
        due("7: no such calendar", x.next(7, 0), JobNets.NONE);
        due("7: no such calendar", x.next(-1, 0), JobNets.NONE);
        due("7: no such calendar", x.next(Integer.MAX_VALUE, 0), JobNets.NONE);
        due("7: below", x.next(0, -1), JobNets.NONE);
        due("7: above", x.next(0, 1000001), JobNets.NONE);
        due("7: far", x.next(0, (1L << 32) + 5), JobNets.NONE);
        due("7: behind the last", x.next(1, 1000000), 1000006);
        x.holiday(0);
        x.holiday(6);
        due("7: a holiday is a day of its week", x.next(1, 0), 0);
        due("7: a holiday is no work day", x.next(4, 0), 1);
        due("7: work days move, 0 was one and 6 was none", x.next(2, 0), 59);
        x.holiday(0);
        due("7: no holiday any more", x.next(2, 0), 29);
    }

    private static void promise7Reach() {
        // No month has more than 22 work days: one holiday in each of the first 13 takes the 22nd from them all.
        JobNets x = new JobNets();
        x.calendar(1, 22);
        for (int month = 0; month < 13; month++) {
            for (int d = 0; d < 7; d++) {
                if ((month * 30 + d) % 7 == 0) {
                    x.holiday(month * 30 + d);
                }
            }
        }
        long first = -1;
        for (int month = 13; first < 0; month++) {
            int found = 0;
            for (int d = month * 30; d < month * 30 + 30; d++) {
                found += d % 7 < 5 ? 1 : 0;
                if (found == 22 && first < 0) {
                    first = d;
                }
            }
        }
        due("7: 400 days behind", x.next(1, first - 400), first);
        due("7: 401 days behind", x.next(1, first - 401), JobNets.NONE);
    }

    private static void promise8() {
        JobNets x = new JobNets();
        x.calendar(0, 1);
        read(x, "a1 0 0 1;b0 0 0 1-a;c0 9 0 1;d2 0 0 1;e0 9 0 1;f0 0 1 1;g0 0 0 1-c;");
        due("8: no plan", x.count(4), 0);
        due("8: below", x.plan(-1), JobNets.NONE);
        due("8: above", x.plan(1000001), JobNets.NONE);
        due("8: far", x.plan(1L << 32), JobNets.NONE);
        same("8: no plan yet", states(x), "0000000");
        due("8: a is out", x.plan(0), 5);
        same("8: a need of one that is out is so", states(x), "0220211");
        same("8: by priority, then by number", starts(x), "3@0 5@0 2@0");
        x.event(0, 0, 0, 50);
        due("8: a is in", x.plan(1), 6);
        same("8: b needs a", states(x), "2120211");
        same("8: starts went, time is 0", starts(x), "3@0 5@0 1@0");
        due("8: time", x.count(5), 0);
        x.event(0, 0, 0, 50);
        due("8: refused", x.plan(1000001), JobNets.NONE);
        same("8: refused, nothing changed", starts(x) + " " + x.count(5), "3@0 5@0 1@0 6@50 50");
        due("8: last day", x.plan(1000000), x.next(1, 1000000) == 1000000 ? 6 : 5);
        due("8: no jobs", new JobNets().plan(3), 0);
        x.calendar(0, 0);
        due("8: d's calendar came", x.plan(7), 6);
        x.holiday(7);
        due("8: the plan stays", x.count(4), 6);
    }

    private static void promise9() {
        JobNets x = net("a0 0 0 1;b0 0 0 1-a!;c0 0 0 1-a?;d0 5 10 1;e0 0 0 1-b-c;");
        due("9: no plan, time only", x.event(9, 0, 0, 3), 0);
        due("9: the time", x.count(5), 3);
        due("9: no plan, none runs", x.event(1, 1, 0, 3), JobNets.NONE);
        x.plan(0);
        due("9: kind", x.event(1, 3, 0, 1), JobNets.NONE);
        due("9: kind", x.event(1, -1, 0, 1), JobNets.NONE);
        due("9: below", x.event(1, 1, 0, -1), JobNets.NONE);
        due("9: above", x.event(1, 1, 0, 1000000001L), JobNets.NONE);
        due("9: far", x.event(1, 1, 0, 1L << 32), JobNets.NONE);
        due("9: no such job", x.event(0, 1, 0, 1), JobNets.NONE);
        due("9: no such job", x.event(6, 2, 0, 1), JobNets.NONE);
        due("9: no such job", x.event(Integer.MIN_VALUE, 2, 0, 1), JobNets.NONE);
        due("9: not running", x.event(2, 1, 0, 1), JobNets.NONE);
        same("9: nothing was done", states(x) + " " + x.count(5), "21111 0");
        due("9: failed: b, c and d start", x.event(1, 2, 0, 10), 3);
        same("9: by priority", starts(x), "1@0 4@10 2@10 3@10");
        due("9: before the time", x.event(2, 1, 0, 9), JobNets.NONE);
        due("9: at the time", x.event(2, 1, 0, 10), 0);
        due("9: not running any more", x.event(2, 1, 0, 10), JobNets.NONE);
        due("9: e needs both", x.event(3, 1, 7, 12), 1);
        same("9: states", states(x), "43322");
        due("9: kept", x.mean(2, 0), 0);
        dueNoMean("9: not kept for its code", x, 3, 0);
        dueNoMean("9: not kept for it failed", x, 1, 0);
        due("9: the last time", x.event(-5, 0, 0, 1000000000), 0);
        due("9: the last time", x.count(5), 1000000000);
        JobNets y = net("a0 0 0 1;b0 0 0 1-a;c0 0 0 1-a?;d0 0 0 1-a!;");
        y.plan(0);
        due("9: ended: b and c start", y.event(1, 1, -1, 5), 2);
        same("9: states", states(y), "3221");
        JobNets z = net("a0 0 5 1;");
        z.plan(0);
        due("9: before its start", z.event(0, 0, 0, 4), 0);
        due("9: at its start", z.event(0, 0, 0, 5), 1);
        due("9: once a plan", z.event(1, 1, 0, 6), 0);
        due("9: once a plan", z.event(0, 0, 0, 7), 0);
    }

    private static void promise10() {
        JobNets x = net("a0 1 0 1;b0 2 0 1;c0 0 0 1-a;");
        due("10: no plan", x.started(0, 0), JobNets.NONE);
        x.plan(0);
        x.event(1, 1, 0, 8);
        same("10: starts", starts(x), "2@0 1@0 3@8");
        due("10: below", x.started(-1, 0), JobNets.NONE);
        due("10: above", x.started(3, 0), JobNets.NONE);
        due("10: above", x.started(Integer.MAX_VALUE, 1), JobNets.NONE);
        due("10: what", x.started(0, 2), JobNets.NONE);
        due("10: what", x.started(0, -1), JobNets.NONE);
    }

    private static void promise11() {
        JobNets x = net("a0 0 0 1;b0 0 0 1-a;c1 0 0 1-b;d0 0 0 1-c;e0 0 0 1;f0 0 99 1-a;");
        due("11: no plan", x.rerun(1), 0);
        x.plan(0);
        due("11: none such", x.rerun(0), JobNets.NONE);
        due("11: none such", x.rerun(7), JobNets.NONE);
        due("11: none such", x.rerun(Integer.MIN_VALUE), JobNets.NONE);
        due("11: runs", x.rerun(1), 0);
        due("11: waits", x.rerun(2), 0);
        due("11: out", x.rerun(3), 0);
        same("11: d started, for c is out", states(x), "210221");
        x.event(1, 1, 0, 3);
        due("11: b and d run", x.rerun(1), 0);
        same("11: nothing was done", states(x), "320221");
        x.event(2, 2, 0, 4);
        due("11: d runs, behind c that is out", x.rerun(1), 0);
        x.event(4, 1, 0, 5);
        due("11: e runs, but needs none of them", x.rerun(1), 3);
        same("11: a and d start again, f never started", states(x), "210221");
        same("11: each start is written down", starts(x), "1@0 4@0 5@0 2@3 1@5 4@5");
        x.event(5, 2, 0, 6);
        due("11: a failed one", x.rerun(5), 1);
        due("11: it runs", x.state(5), 2);
        due("11: kept times stay", x.mean(1, 0), 3);
        x.event(1, 1, 0, 6);
        due("11: from its latest start", x.mean(1, 0), 2);
    }

    private static void promise12() {
        JobNets x = net("a0 0 0 1;b0 0 0 1-a;c0 0 0 1-a;d0 0 0 1-c-b;e0 0 0 1-d;");
        same("12: none", ring(x), "");
        due("12: below", x.ring(-1), 0);
        x.needs(1, 5, 0);
        same("12: found first by needs in their order", ring(x), "5 4 3 1");
        due("12: length", x.count(6), 4);
        due("12: below", x.ring(-1), 0);
        due("12: above", x.ring(4), 0);
        due("12: above", x.ring(Integer.MAX_VALUE), 0);
        x.needs(5, 1, 0);
        same("12: a need that is taken leaves the ring", ring(x), "5 4 3 1");
        x.needs(1, 5, 0);
        same("12: the shortest way", ring(x), "5 1");
        x.needs(2, 2, 0);
        same("12: itself", ring(x), "2");
        x.needs(2, 2, 3);
        read(x, "a0 0 0");
        same("12: another fault leaves the ring", ring(x), "2");
        read(x, "a0 0 0 1;b0 0 0 1-a-c;c0 0 0 1-d;d0 0 0 1-b-c;");
        same("12: first need on a ring is b's of c", ring(x), "3 4 2");
        read(x, "a0 0 0 1;b0 0 0 1-c;c0 0 0 1-d;d0 0 0 1-c;");
        same("12: b is on none, c's of d is the first", ring(x), "4 3");
        read(x, "a0 0 0 1-b;b0 0 0 1-b;");
        same("12: itself, in a text", ring(x), "2");
        read(x, "a0 0 0 1-z;b0 0 0 1-a-b;");
        same("12: a name that is none of the text is told first", ring(x), "2");
        read(x, "a0 0 0 1-b;b0 0 0 1-d-c;c0 0 0 1-a;d0 0 0 1-e;e0 0 0 1-a;");
        same("12: level by level", ring(x), "2 3 1");
        read(x, "q0 0 0 1;");
        same("12: a right text leaves the ring", ring(x), "2 3 1");
    }

    private static void promise13() {
        JobNets x = net("a0 0 0 3;b0 0 0 4-a;c0 0 0 4-a;d0 0 0 2-c-b;e0 0 0 2-b;f1 0 0 99-e;");
        same("13: no plan", critical(x), "");
        x.plan(0);
        same("13: equal ends, equal before", critical(x), "1 2 4");
        due("13: below", x.critical(-1), 0);
        due("13: above", x.critical(3), 0);
        due("13: above", x.critical(Integer.MAX_VALUE), 0);
        x.event(1, 2, 0, 1);
        same("13: whatever the states", critical(x), "1 2 4");
        x.needs(2, 3, 0);
        same("13: a new need", critical(x), "1 3 2 4");
        JobNets y = net("a0 0 0 9;b1 0 0 9-a;c0 0 0 9-b;d0 0 0 8;");
        y.plan(0);
        same("13: no way through one that is out", critical(y), "1");
        y.calendar(0, 0);
        y.plan(0);
        same("13: it is in", critical(y), "1 2 3");
        y.plan(1);
        same("13: it is out again", critical(y), "1");
        JobNets z = net("c0 0 0 5-a;a0 0 0 1;b0 0 0 6;");
        z.plan(0);
        same("13: the lesser end", critical(z), "2 1");
        JobNets none = net("b0 0 0 0-a;a0 0 0 0;");
        none.plan(0);
        same("13: of equal ways the one with none before", critical(none), "1");
        JobNets out = net("a1 0 0 5;");
        out.plan(0);
        same("13: no job in the plan", critical(out), "");
    }

    private static void promise14() {
        JobNets x = net("a0 0 0 3;b0 0 0 3;");
        dueNoMean("14: none kept", x, 1, 0);
        dueNoMean("14: none kept", x, 1, 1);
        due("14: no such job", x.mean(0, 0), JobNets.NONE);
        due("14: no such job", x.mean(3, 1), JobNets.NONE);
        due("14: no such job", x.mean(Integer.MIN_VALUE, 1), JobNets.NONE);
        due("14: no such side", x.mean(1, 2), JobNets.NONE);
        due("14: no such side", x.mean(1, -1), JobNets.NONE);
        x.plan(0);
        x.event(1, 1, 0, 5);
        x.plan(0);
        x.event(0, 0, 0, 4);
        x.event(1, 1, 0, 6);
        x.plan(0);
        x.event(1, 1, 1, 1000);
        x.plan(0);
        x.event(1, 2, 0, 1000);
        x.plan(0);
        x.event(1, 1, 0, 6);
        due("14: whole part of 17 / 3", x.mean(1, 0), 5);
        due("14: what is left of 17", x.mean(1, 1), 2);
        dueNoMean("14: the other", x, 2, 0);
        for (int i = 0; i < 5; i++) {
            x.plan(0);
            x.event(2, 1, 0, 1000000000);
        }
        due("14: no sum is too great", x.mean(2, 0), 1000000000);
        due("14: no sum is too great", x.mean(2, 1), 0);
    }

    private static void promise15() {
        JobNets x = net("a0 0 0 5;b0 0 2 4-a;c1 0 0 0;d0 0 7 1;");
        same("15: no plan", late(x, 1000), "");
        x.plan(0);
        same("15: not longer", late(x, 5), "");
        same("15: a runs longer", late(x, 6), "1");
        same("15: b waits", late(x, 7), "1 2");
        same("15: d waits, just not", late(x, 8), "1 2");
        same("15: d waits", late(x, 9), "1 2 4");
        due("15: below", x.late(9, -1), 0);
        due("15: above", x.late(9, 3), 0);
        same("15: the least time", late(x, Long.MIN_VALUE), "");
        same("15: the greatest time", late(x, Long.MAX_VALUE), "1 2 4");
        x.event(1, 1, 0, 9);
        same("15: ended ones are not late", late(x, 13), "4");
        same("15: b runs from 9 on", late(x, 14), "2 4");
        x.event(2, 2, 0, 14);
        same("15: failed ones are not late", late(x, 1000), "4");
        x.plan(0);
        same("15: a's mean is 9 now", late(x, 9), "2 4");
        same("15: longer than its mean", late(x, 10), "1 2 4");
        x.event(1, 1, 0, 10);
        x.plan(0);
        same("15: a's mean is 9 and a half", late(x, 9), "2 4");
        same("15: longer than its mean", late(x, 10), "1 2 4");
        JobNets y = net("a0 0 0 9;b0 0 5 1-a;");
        y.plan(0);
        y.event(0, 0, 0, 5);
        y.event(1, 1, 0, 5);
        y.event(2, 1, 0, 25);
        y.rerun(1);
        same("15: b waits, just not more than its mean", late(y, 25), "");
        same("15: b waits, its start 5 and its mean 20", late(y, 26), "2");
        same("15: a runs from 25 on, its mean is 5", late(y, 31), "1 2");
    }

    private static void promise16() {
        JobNets x = net("a1 0 0 1;b0 0 9 1;c0 0 0 1;d0 0 0 1;e0 0 0 1;");
        same("16: no plan", states(x), "00000");
        x.plan(0);
        x.event(4, 1, 0, 0);
        x.event(5, 2, 0, 0);
        same("16: all of them", states(x), "01234");
        due("16: none such", x.state(0), JobNets.NONE);
        due("16: none such", x.state(6), JobNets.NONE);
        due("16: none such", x.state(26), JobNets.NONE);
        due("16: none such", x.state(27), JobNets.NONE);
        due("16: none such", x.state(Integer.MIN_VALUE), JobNets.NONE);
        due("16: none such", x.state(Integer.MAX_VALUE), JobNets.NONE);
    }

    private static void promise17() {
        JobNets x = net("a1 0 0 1;b0 0 9 1;c0 0 0 1;d0 0 0 1;e0 0 0 1-d;");
        x.calendar(0, 1);
        x.calendar(0, 2);
        x.holiday(1);
        x.holiday(2);
        x.holiday(4);
        x.holiday(8);
        x.plan(0);
        x.event(4, 1, 0, 8);
        x.needs(4, 5, 0);
        int[] counts = {5, 3, 4, 3, 4, 8, 2, 2};
        for (int what = 0; what < counts.length; what++) {
            due("17: count(" + what + ")", x.count(what), counts[what]);
        }
        due("17: others", x.count(-1), JobNets.NONE);
        due("17: others", x.count(8), JobNets.NONE);
        due("17: others", x.count(Integer.MAX_VALUE), JobNets.NONE);
    }

    public static void main(String[] args) {
        due("NONE", JobNets.NONE, -1);
        promise1();
        promise2();
        promise3Right();
        promise3Faults();
        promise3Changes();
        promise4();
        promise5();
        promise6();
        promise7();
        promise7Reach();
        promise8();
        promise9();
        promise10();
        promise11();
        promise12();
        promise13();
        promise14();
        promise15();
        promise16();
        promise17();
        end();
    }
}
