/** The edges that the document names in its part 2 and in promises 7 to 13: a test for each sentence. */
public final class LeaseEdgesTest {
    private static final int LEAST = Integer.MIN_VALUE;
    private static final int MOST = Integer.MAX_VALUE;
    private static final int[] NO_HOURS = {-1, 24, 25, LEAST, MOST};
    private static final int[] NO_DAYS = {-1, 10000, LEAST, MOST};
    private static final String THREE = "tenant 5 left 1 1;tenant 7 right 1 1;tenant 3 both 1 1;";

    public static void main(String[] args) {
        halves();
        hours();
        days();
        bothBelongToIt();
        troubleOne();
        troublesTwoToFour();
        troublesFiveToSeven();
        theLeast();
        refused();
        judged();
        undone();
        whoIsIn();
        swings();
        slowness();
        byWhom();
        Check.end();
    }

    private static void halves() {
        Check.sentence("HALVES are 0 left, 1 right, 2 the pause.");
        ClockLodgers clock = Check.clock(THREE);
        for (int half : new int[] {-1, 3, LEAST, MOST}) {
            Check.due("lease in half " + half, 1, clock.lease(2, half, 0, 0));
            Check.noSuch("in(" + half + ", 0)", () -> clock.in(half, 0));
        }
        for (int half = 0; half <= 2; half++) {
            Check.due("in(" + half + ", 0)", -1, clock.in(half, 0));
        }
    }

    private static void hours() {
        Check.sentence("HOURS are 0 to 23");
        ClockLodgers clock = Check.clock(THREE);
        for (int hour : NO_HOURS) {
            Check.due("lease from " + hour, 1, clock.lease(0, 0, hour, 23));
            Check.due("lease to " + hour, 1, clock.lease(0, 0, 0, hour));
            Check.due("lease from and to " + hour, 1, clock.lease(0, 0, hour, hour));
            Check.noSuch("in(0, " + hour + ")", () -> clock.in(0, hour));
            Check.noSuch("swing(" + hour + ", 0)", () -> clock.swing(hour, 0));
            Check.noSuch("slow(" + hour + ", 23, 0)", () -> clock.slow(hour, 23, 0));
            Check.noSuch("slow(0, " + hour + ", 0)", () -> clock.slow(0, hour, 0));
            Check.noSuch("visits(1, " + hour + ")", () -> clock.visits(1, hour));
            Check.due("offer from " + hour, -1, clock.offer(hour, 23, 0));
            Check.due("offer to " + hour, -1, clock.offer(0, hour, 0));
        }
        Check.due("lease(0, 0, 0, 23)", 0, clock.lease(0, 0, 0, 23));
        Check.due("offer(0, 23, 0)", 1, clock.offer(0, 23, 0));
        Check.due("visits(1, 23)", 23, clock.visits(1, 23));
        Check.due("visits(1, 0)", 0, clock.visits(1, 0));
    }

    private static void days() {
        Check.sentence("DAYS 0 to 9999");
        ClockLodgers clock = Check.clock(THREE);
        for (int day : NO_DAYS) {
            Check.illegal("swing(0, " + day + ")", () -> clock.swing(0, day));
            Check.illegal("slow(0, 0, " + day + ")", () -> clock.slow(0, 0, day));
            Check.illegal("slowBy(0, " + day + ")", () -> clock.slowBy(0, day));
            Check.illegal("house4(1, " + day + ")", () -> clock.house4(1, day));
            Check.illegal("wedding(" + day + ")", () -> clock.wedding(day));
            Check.illegal("birthday(" + day + ")", () -> clock.birthday(day));
            Check.illegal("both(0, 30, " + day + ", 0)", () -> clock.both(0, 30, day, 0));
        }
        for (int day : new int[] {0, 9999}) {
            Check.due("swing(0, " + day + ")", 60, clock.swing(0, day));
            Check.due("slow(0, 23, " + day + ")", 0, clock.slow(0, 23, day));
            Check.due("slowBy(0, " + day + ")", 0, clock.slowBy(0, day));
            Check.due("house4(1, " + day + ")", 0, clock.house4(1, day));
            Check.due("wedding(" + day + ")", -1, clock.wedding(day));
            Check.due("birthday(" + day + ")", 0, clock.birthday(day));
            Check.due("both(0, 30, " + day + ", 1)", 5, clock.both(0, 30, day, 1));
        }
    }

    private static void bothBelongToIt() {
        Check.sentence("a TENANT has a half FROM an HOUR TO another one (both belong to it), on each DAY");
        ClockLodgers clock = Check.clock(THREE);
        Check.due("a LEASE of one HOUR", 0, clock.lease(0, 0, 0, 0));
        Check.due("the first", 0, clock.in(0, 0));
        Check.due("behind it", -1, clock.in(0, 1));
        Check.due("a LEASE of the last HOUR", 0, clock.lease(0, 0, 23, 23));
        Check.due("the last", 0, clock.in(0, 23));
        Check.due("ahead of it", -1, clock.in(0, 22));
        Check.due("a LEASE of the whole DAY", 0, clock.lease(1, 1, 0, 23));
        for (int hour = 0; hour <= 23; hour++) {
            Check.due("in(1, " + hour + ")", 1, clock.in(1, hour));
            int alone = hour == 0 || hour == 23 ? 72 : 67;
            Check.due("swing(" + hour + ", 0)", alone, clock.swing(hour, 0));
            Check.due("swing(" + hour + ", 9999)", alone, clock.swing(hour, 9999));
        }
    }

    private static void troubleOne() {
        Check.sentence("1 no such TENANT, half, HOUR, or TO is below FROM");
        ClockLodgers clock = Check.clock(THREE);
        int[] strange = {LEAST, -1, MOST};
        for (int number : strange) {
            Check.due("no such TENANT", 1, clock.lease(number, 0, 0, 0));
            Check.due("no such half", 1, clock.lease(0, number, 0, 0));
            Check.due("no such FROM", 1, clock.lease(0, 0, number, 23));
            Check.due("no such TO", 1, clock.lease(0, 0, 0, number));
        }
        Check.due("TENANT 3 of 3", 1, clock.lease(3, 0, 0, 0));
        Check.due("half 3", 1, clock.lease(0, 3, 0, 0));
        Check.due("TO 24", 1, clock.lease(0, 0, 23, 24));
        Check.due("TO just below FROM", 1, clock.lease(0, 0, 1, 0));
        Check.due("TO far below FROM", 1, clock.lease(0, 0, 23, 0));
        Check.due("FROM 23 TO 23", 0, clock.lease(0, 0, 23, 23));
        Check.due("TENANT 2 of 3", 0, clock.lease(2, 0, 0, 0));
        Check.due("no TENANTS", 1, new ClockLodgers().lease(0, 0, 0, 0));
    }

    private static void troublesTwoToFour() {
        breathDoesntLet();
        aPauseIsForAll();
        halfIsLet();
        lodgesElsewhere();
    }

    private static void breathDoesntLet() {
        Check.sentence("2 his BREATH doesn't let him");
        ClockLodgers clock = Check.clock(THREE);
        Check.due("left to the left", 0, clock.judge(0, 0, 0, 0));
        Check.due("left to the right", 2, clock.judge(0, 1, 0, 0));
        Check.due("right to the left", 2, clock.judge(1, 0, 0, 0));
        Check.due("right to the right", 0, clock.judge(1, 1, 0, 0));
        Check.due("both to the left", 0, clock.judge(2, 0, 0, 0));
        Check.due("both to the right", 0, clock.judge(2, 1, 0, 0));
    }

    private static void aPauseIsForAll() {
        Check.sentence("(a pause is for all)");
        for (int guest = 0; guest < 3; guest++) {
            ClockLodgers clock = Check.clock(THREE + "tenant 1 left 1 1;tenant 1 right 1 1;");
            clock.lease(3, 0, 0, 0);
            clock.lease(4, 1, 0, 0);
            Check.due("a pause for TENANT " + guest, 0, clock.lease(guest, 2, 0, 0));
            Check.due("in(2, 0)", guest, clock.in(2, 0));
        }
    }

    private static void halfIsLet() {
        Check.sentence("3 the half is let in one of these HOURS");
        ClockLodgers clock = Check.clock(THREE);
        clock.lease(0, 0, 8, 11);
        Check.due("just ahead of it", 0, clock.judge(2, 0, 0, 7));
        Check.due("its first HOUR", 3, clock.judge(2, 0, 0, 8));
        Check.due("within it", 3, clock.judge(2, 0, 9, 10));
        Check.due("all round it", 3, clock.judge(2, 0, 0, 23));
        Check.due("its last HOUR", 3, clock.judge(2, 0, 11, 23));
        Check.due("just behind it", 0, clock.judge(2, 0, 12, 23));
        Check.due("to himself", 3, clock.judge(0, 0, 8, 11));
        Check.due("the other half", 0, clock.judge(2, 1, 0, 23));
        clock.lease(1, 1, 8, 11);
        clock.lease(2, 2, 9, 9);
        Check.due("a pause that is let", 3, clock.judge(2, 2, 8, 9));
        Check.due("a pause beside it", 0, clock.judge(2, 2, 10, 11));
    }

    private static void lodgesElsewhere() {
        Check.sentence("4 he lodges elsewhere in one of them");
        ClockLodgers clock = Check.clock(THREE);
        clock.lease(2, 0, 8, 11);
        Check.due("just ahead of it", 0, clock.judge(2, 1, 0, 7));
        Check.due("its first HOUR", 4, clock.judge(2, 1, 0, 8));
        Check.due("its last HOUR", 4, clock.judge(2, 1, 11, 23));
        Check.due("just behind it", 0, clock.judge(2, 1, 12, 23));
        clock.lease(1, 1, 8, 12);
        Check.due("in the pause beside himself", 4, clock.judge(2, 2, 8, 8));
        Check.due("in the pause beside the half to the right", 4, clock.judge(1, 2, 11, 11));
        clock.lease(0, 0, 12, 12);
        Check.due("in the pause behind his half", 0, clock.judge(2, 2, 12, 12));
    }

    private static void troublesFiveToSeven() {
        notBothLet();
        ruleOfSomeHour();
        ruleOfSomeLease();
        twelveLeases();
    }

    private static void notBothLet() {
        Check.sentence("5 a pause while not both halves are let, in one of them");
        ClockLodgers clock = Check.clock(THREE);
        Check.due("none is let", 5, clock.judge(2, 2, 0, 0));
        clock.lease(0, 0, 8, 11);
        Check.due("the left alone", 5, clock.judge(2, 2, 8, 8));
        clock.lease(1, 1, 10, 13);
        Check.due("both", 0, clock.judge(2, 2, 10, 11));
        Check.due("an HOUR too early", 5, clock.judge(2, 2, 9, 11));
        Check.due("an HOUR too late", 5, clock.judge(2, 2, 10, 12));
        Check.due("the right alone", 5, clock.judge(2, 2, 12, 12));
        Check.due("the last HOUR", 5, clock.judge(2, 2, 23, 23));
        clock.lease(0, 0, 12, 12);
        Check.due("the left let by two LEASES", 0, clock.judge(2, 2, 10, 12));
    }

    private static void ruleOfSomeHour() {
        Check.sentence("6 a RULE that doesn't hold of some LEASE in some HOUR of it");
        ClockLodgers clock = Check.clock(THREE + "rule 3<hour;rule hour<9;");
        Check.due("all of them hold", 0, clock.judge(0, 0, 4, 8));
        Check.due("not in its first HOUR", 6, clock.judge(0, 0, 3, 8));
        Check.due("not in its last HOUR", 6, clock.judge(0, 0, 4, 9));
        Check.due("in none", 6, clock.judge(0, 0, 10, 23));
        ClockLodgers middle = Check.clock(THREE + "rule not hour=6;");
        Check.due("not in one within", 6, middle.judge(0, 0, 0, 23));
        Check.due("up to it", 0, middle.judge(0, 0, 0, 5));
        Check.due("from it on", 0, middle.judge(0, 0, 7, 23));
        Check.due("RULES of 0", 6, Check.clock(THREE + "rule 0;").judge(0, 0, 0, 0));
    }

    private static void ruleOfSomeLease() {
        Check.sentence("were it granted");
        ClockLodgers clock = Check.clock(THREE + "rule half=1 or other<7;");
        Check.due("left", 0, clock.lease(0, 0, 5, 8));
        Check.due("it doesn't hold of the other in its last HOUR", 6, clock.judge(1, 1, 8, 12));
        Check.due("nor in its first", 6, clock.judge(1, 1, 0, 5));
        Check.due("beside it", 0, clock.judge(1, 1, 9, 12));
        Check.due("a lighter one", 0, clock.lease(2, 1, 8, 12));
        ClockLodgers pause = Check.clock(THREE + "quarrel 0 2;rule half=2 or quarrels=0;");
        pause.lease(0, 0, 5, 8);
        pause.lease(1, 1, 5, 8);
        Check.due("it doesn't hold of the left by a pause", 6, pause.lease(2, 2, 8, 8));
        Check.due("nobody came", -1, pause.in(2, 8));
        Check.due("the left stays", 0, pause.in(0, 8));
    }

    private static ClockLodgers twelve() {
        ClockLodgers clock = Check.clock(THREE + "tenant 1 right 1 1;rule hour<20;");
        for (int lease = 1; lease <= 12; lease++) {
            Check.due("LEASE " + lease, 0, clock.lease(0, 0, lease, lease));
        }
        return clock;
    }

    private static void twelveLeases() {
        Check.sentence("7 there are 12 LEASES");
        ClockLodgers clock = twelve();
        Check.due("the 13th", 7, clock.lease(0, 0, 13, 13));
        Check.due("the 13th to the right", 7, clock.lease(1, 1, 0, 19));
        Check.due("LEASES", 12, clock.count(7));
        Check.due("nobody came", -1, clock.in(0, 13));
        Check.due("one less", 11, clock.undo());
        Check.due("the 12th again", 0, clock.lease(1, 1, 0, 19));
        Check.due("LEASES", 12, clock.count(7));
    }

    private static void theLeast() {
        Check.sentence("TROUBLES, the least");
        ClockLodgers clock = twelve();
        Check.due("1 and all others", 1, clock.judge(1, 0, 5, 4));
        Check.due("2, 3, 6, 7", 2, clock.judge(1, 0, 1, 23));
        Check.due("3, 6, 7", 3, clock.judge(2, 0, 12, 23));
        Check.due("3, 4, 6, 7", 3, clock.judge(0, 0, 12, 23));
        Check.due("4, 5, 6, 7", 4, clock.judge(0, 2, 12, 23));
        Check.due("5, 6, 7", 5, clock.judge(2, 2, 12, 23));
        Check.due("6, 7", 6, clock.judge(2, 0, 13, 20));
        Check.due("7", 7, clock.judge(2, 0, 13, 19));
        Check.due("2 and 7", 2, clock.judge(3, 0, 13, 13));
        ClockLodgers few = Check.clock(THREE + "rule hour<20;");
        few.lease(0, 0, 4, 4);
        few.lease(1, 1, 4, 4);
        few.lease(2, 2, 4, 4);
        few.lease(2, 0, 6, 6);
        Check.due("2 and 3", 2, few.judge(0, 1, 4, 4));
        Check.due("2 and 4", 2, few.judge(0, 1, 3, 4));
        Check.due("2 and 6", 2, few.judge(0, 1, 20, 20));
        Check.due("3 and 4", 3, few.judge(0, 2, 4, 4));
        Check.due("3 and 5", 3, few.judge(1, 2, 4, 5));
        Check.due("3 and 6", 3, few.judge(2, 1, 4, 20));
        Check.due("4 and 5", 4, few.judge(2, 2, 6, 6));
        Check.due("4 and 6", 4, few.judge(2, 1, 6, 20));
        Check.due("5 and 6", 5, few.judge(2, 2, 20, 20));
    }

    private static void refused() {
        Check.sentence("A LEASE is asked for: 0, or the TROUBLE (STATUS 1).");
        ClockLodgers clock = twelve();
        int[][] troubles = {{1, 0, 5, 4}, {0, 1, 0, 0}, {0, 0, 1, 1}, {0, 2, 1, 1}, {2, 2, 1, 1}, {0, 0, 20, 20}, {0, 0, 13, 13}};
        for (int i = 0; i < troubles.length; i++) {
            int[] t = troubles[i];
            Check.due("STATUS 1", i, clock.count(11));
            Check.due("TROUBLE " + (i + 1), i + 1, clock.lease(t[0], t[1], t[2], t[3]));
            Check.due("STATUS 1", i + 1, clock.count(11));
            Check.due("LEASES", 12, clock.count(7));
        }
        for (int hour = 0; hour <= 23; hour++) {
            Check.due("in(0, " + hour + ")", hour >= 1 && hour <= 12 ? 0 : -1, clock.in(0, hour));
            Check.due("in(1, " + hour + ")", -1, clock.in(1, hour));
            Check.due("in(2, " + hour + ")", -1, clock.in(2, hour));
        }
        clock.undo();
        Check.due("one that is granted", 0, clock.lease(0, 0, 13, 13));
        Check.due("isn't counted", troubles.length, clock.count(11));
        Check.due("others aren't", 0, clock.count(10) + clock.count(12));
    }

    private static void judged() {
        Check.sentence("Likewise, but nothing is granted (nor counted).");
        ClockLodgers clock = twelve();
        int[][] troubles = {{1, 0, 5, 4}, {0, 1, 0, 0}, {0, 0, 1, 1}, {0, 2, 1, 1}, {2, 2, 1, 1}, {0, 0, 20, 20}, {0, 0, 13, 13}};
        for (int i = 0; i < troubles.length; i++) {
            int[] t = troubles[i];
            Check.due("TROUBLE " + (i + 1), i + 1, clock.judge(t[0], t[1], t[2], t[3]));
        }
        Check.due("nothing is counted", 0, clock.count(11));
        clock.undo();
        Check.due("judge of a fine one", 0, clock.judge(1, 1, 0, 19));
        Check.due("judge of it again", 0, clock.judge(1, 1, 0, 19));
        Check.due("LEASES", 11, clock.count(7));
        Check.due("nobody came", -1, clock.in(1, 0));
        Check.due("HOURS", 0, clock.tenant(1, 4));
    }

    private static void undone() {
        lastFirst();
        noneLeft();
    }

    private static void lastFirst() {
        Check.sentence("LEASES are UNDONE, the last one first.");
        ClockLodgers clock = Check.clock(THREE);
        clock.lease(1, 1, 0, 23);
        clock.lease(0, 0, 0, 23);
        clock.lease(2, 2, 23, 23);
        clock.lease(2, 2, 0, 0);
        clock.lease(5, 5, 5, 5);
        Check.due("the fourth", 3, clock.undo());
        Check.due("in(2, 0)", -1, clock.in(2, 0));
        Check.due("in(2, 23)", 2, clock.in(2, 23));
        Check.due("the third", 2, clock.undo());
        Check.due("in(2, 23)", -1, clock.in(2, 23));
        Check.due("the second", 1, clock.undo());
        Check.due("in(0, 0)", -1, clock.in(0, 0));
        Check.due("in(0, 23)", -1, clock.in(0, 23));
        Check.due("in(1, 0)", 1, clock.in(1, 0));
        Check.due("a pause now", 5, clock.judge(2, 2, 0, 0));
        Check.due("the left now", 0, clock.judge(2, 0, 0, 23));
    }

    private static void noneLeft() {
        Check.sentence("The last LEASE is UNDONE: how many are left. NONE: there are none.");
        Check.due("of a new object", -1, new ClockLodgers().undo());
        ClockLodgers clock = twelve();
        for (int left = 11; left >= 0; left--) {
            Check.due("undo()", left, clock.undo());
            Check.due("LEASES", left, clock.count(7));
        }
        Check.due("none are left", -1, clock.undo());
        Check.due("none again", -1, clock.undo());
        Check.due("LEASES", 0, clock.count(7));
        Check.due("a LEASE again", 0, clock.lease(0, 0, 0, 0));
        Check.due("and undone", 0, clock.undo());
    }

    private static void whoIsIn() {
        Check.sentence("Who is in a half in an HOUR; NONE: nobody. NoSuchElementException: no such half, HOUR (as everywhere).");
        ClockLodgers clock = Check.clock(THREE);
        clock.lease(0, 0, 0, 23);
        clock.lease(1, 1, 0, 23);
        clock.lease(2, 2, 1, 22);
        for (int hour = 0; hour <= 23; hour++) {
            Check.due("in(0, " + hour + ")", 0, clock.in(0, hour));
            Check.due("in(1, " + hour + ")", 1, clock.in(1, hour));
            Check.due("in(2, " + hour + ")", hour == 0 || hour == 23 ? -1 : 2, clock.in(2, hour));
        }
        for (int half : new int[] {-1, 3, LEAST, MOST}) {
            for (int hour : NO_HOURS) {
                Check.noSuch("in(" + half + ", " + hour + ")", () -> clock.in(half, hour));
            }
        }
    }

    private static void swings() {
        oilByDays();
        twoAtLeast();
        couples();
        stopsAbove();
        noDayBehindNoHour();
    }

    private static void oilByDays() {
        Check.sentence("(OIL less DAY by how many DAYS take one, cut down, 0 at least)");
        int[][] slowest = {{0, 30}, {98, 30}, {99, 29}, {197, 29}, {198, 28}, {2969, 1}, {2970, 0}, {2971, 0}, {3069, 0}, {9999, 0}};
        ClockLodgers clock = Check.clock("oil 30 99;");
        for (int[] row : slowest) {
            Check.due("swing(0, " + row[0] + ")", 60 - row[1], clock.swing(0, row[0]));
        }
        int[][] fastest = {{0, 30}, {1, 29}, {29, 1}, {30, 0}, {31, 0}, {9999, 0}};
        ClockLodgers fast = Check.clock("oil 30 1;");
        for (int[] row : fastest) {
            Check.due("swing(0, " + row[0] + ")", 60 - row[1], fast.swing(0, row[0]));
        }
        ClockLodgers none = Check.clock("oil 0 1;");
        Check.due("no OIL on DAY 0", 60, none.swing(0, 0));
        Check.due("no OIL on DAY 9999", 60, none.swing(0, 9999));
    }

    /** What a text can tell goes down to 10 alone: BASE 20 twice less OIL 30. */
    private static void twoAtLeast() {
        Check.sentence("2 at least");
        ClockLodgers clock = Check.clock("base 20;oil 30 99;");
        Check.due("the least SWING there is", 10, clock.swing(0, 0));
        Check.due("SLOW of it", 24 * -50, clock.slow(0, 23, 0));
    }

    private static void couples() {
        Check.sentence("BASE twice, WEIGHTS of all who are in, 3 for each couple of them that QUARRELS");
        String three = "base 60;tenant 20 both 1 1;tenant 20 both 1 1;tenant 20 both 1 1;tenant 20 both 1 1;";
        String[] quarrels = {"", "quarrel 0 1;", "quarrel 2 0;", "quarrel 1 2;", "quarrel 0 1;quarrel 0 2;",
            "quarrel 0 1;quarrel 1 2;quarrel 2 0;", "quarrel 0 3;quarrel 1 3;quarrel 2 3;"};
        int[] couples = {0, 1, 1, 1, 2, 3, 0};
        for (int i = 0; i < quarrels.length; i++) {
            ClockLodgers clock = Check.clock(three + quarrels[i]);
            Check.due("nobody", 120, clock.swing(0, 0));
            clock.lease(0, 0, 0, 0);
            Check.due("one", 140, clock.swing(0, 0));
            clock.lease(1, 1, 0, 0);
            clock.lease(2, 2, 0, 0);
            Check.due("three with " + quarrels[i], 180 + 3 * couples[i], clock.swing(0, 0));
            Check.due("nobody in the next HOUR", 120, clock.swing(1, 0));
        }
    }

    private static void stopsAbove() {
        Check.sentence("It STOPS, if that is above STOP.");
        for (int stop = 119; stop <= 121; stop++) {
            Check.due("a SWING of 120 and STOP " + stop, stop < 120 ? 6 : -1, Check.clock("base 60;stop " + stop + ";").wedding(0));
        }
        // 41 up to DAY 98, on Sunday 97 too, and 42 from there on
        Check.due("the least STOP", 104, Check.clock("base 21;oil 1 99;stop 41;").wedding(0));
        Check.due("the greatest STOP", -1, Check.clock("base 60;stop 400;").wedding(0));
        Check.due("the slowest SWING without a STOP told", -1, slowest("").wedding(0));
        Check.due("the slowest SWING, at STOP", -1, slowest("stop 189;").wedding(0));
        Check.due("the slowest SWING, above STOP", 6, slowest("stop 188;").wedding(0));
    }

    private static void noDayBehindNoHour() {
        Check.sentence("IllegalArgumentException (behind NoSuchElementException): it is no DAY (as everywhere).");
        ClockLodgers clock = Check.clock(THREE);
        for (int day : NO_DAYS) {
            for (int hour : NO_HOURS) {
                Check.noSuch("swing(" + hour + ", " + day + ")", () -> clock.swing(hour, day));
                Check.noSuch("slow(" + hour + ", 0, " + day + ")", () -> clock.slow(hour, 0, day));
                Check.noSuch("slow(0, " + hour + ", " + day + ")", () -> clock.slow(0, hour, day));
            }
            Check.noSuch("slowBy(3, " + day + ")", () -> clock.slowBy(3, day));
            Check.noSuch("both(3, 30, " + day + ", 0)", () -> clock.both(3, 30, day, 0));
            Check.noSuch("both(0, 30, " + day + ", 2)", () -> clock.both(0, 30, day, 2));
            Check.illegal("swing(23, " + day + ")", () -> clock.swing(23, day));
        }
    }

    private static void slowness() {
        aboveSixty();
        belowIt();
    }

    private static void aboveSixty() {
        Check.sentence("of all these HOURS how much their SWING is above 60, together (below 0: it is fast)");
        ClockLodgers clock = Check.clock("oil 2 9;tenant 20 left 1 1;tenant 2 right 1 1;");
        clock.lease(0, 0, 0, 0);
        clock.lease(0, 0, 23, 23);
        clock.lease(1, 1, 12, 12);
        Check.due("slow(0, 0, 0)", 18, clock.slow(0, 0, 0));
        Check.due("slow(1, 1, 0)", -2, clock.slow(1, 1, 0));
        Check.due("slow(12, 12, 0)", 0, clock.slow(12, 12, 0));
        Check.due("slow(23, 23, 0)", 18, clock.slow(23, 23, 0));
        Check.due("slow(1, 22, 0)", -42, clock.slow(1, 22, 0));
        Check.due("slow(0, 22, 0)", -24, clock.slow(0, 22, 0));
        Check.due("slow(0, 23, 0)", -6, clock.slow(0, 23, 0));
        Check.due("slow(0, 23, 9)", 18, clock.slow(0, 23, 9));
        Check.due("the slowest of all", 24 * (120 + 60 + 9 - 60), slowest("").slow(0, 23, 9999));
    }

    private static ClockLodgers slowest(String told) {
        ClockLodgers clock = Check.clock(told + "base 60;tenant 20 both 1 1;tenant 20 both 1 1;tenant 20 both 1 1;"
                + "quarrel 0 1;quarrel 0 2;quarrel 1 2;");
        clock.lease(0, 0, 0, 23);
        clock.lease(1, 1, 0, 23);
        clock.lease(2, 2, 0, 23);
        return clock;
    }

    private static void belowIt() {
        Check.sentence("SLOW from an HOUR to another one. IllegalArgumentException: also that is below it.");
        ClockLodgers clock = Check.clock("base 31;");
        Check.due("the same HOUR", 2, clock.slow(5, 5, 0));
        Check.due("the next HOUR", 4, clock.slow(5, 6, 0));
        Check.illegal("just below it", () -> clock.slow(5, 4, 0));
        Check.illegal("far below it", () -> clock.slow(23, 0, 0));
        Check.illegal("below it on no DAY", () -> clock.slow(5, 4, -1));
        Check.noSuch("below it, no HOUR", () -> clock.slow(5, -1, 0));
        Check.noSuch("below it, no HOUR", () -> clock.slow(24, 4, 0));
    }

    private static void byWhom() {
        withoutAllHisLeases();
        othersAsTheyAre();
    }

    private static void withoutAllHisLeases() {
        Check.sentence("SLOW of a whole DAY less what it would be without all LEASES of a TENANT");
        ClockLodgers clock = Check.clock("oil 30 1;" + THREE + "quarrel 0 2;");
        Check.due("without LEASES", 0, clock.slowBy(0, 0));
        clock.lease(0, 0, 0, 0);
        clock.lease(0, 0, 23, 23);
        Check.due("two of them", 10, clock.slowBy(0, 0));
        Check.due("on a DAY without OIL", 10, clock.slowBy(0, 9999));
        Check.due("one who has none", 0, clock.slowBy(2, 0));
        clock.lease(1, 1, 23, 23);
        clock.lease(2, 2, 23, 23);
        Check.due("by a quarrel more", 13, clock.slowBy(0, 0));
        Check.due("the quarrel by the other one", 6, clock.slowBy(2, 0));
        Check.due("nothing is undone", 4, clock.count(7));
        Check.due("he is still in", 0, clock.in(0, 0));
    }

    private static void othersAsTheyAre() {
        Check.sentence("(all others as they are)");
        ClockLodgers clock = slowest("");
        Check.due("a pause stays without a half", 24 * (20 + 6), clock.slowBy(0, 0));
        Check.due("a pause", 24 * (20 + 6), clock.slowBy(2, 0));
    }
}
