/** Promises 7 to 10, 27 and 28: leases with their troubles, rules, undone leases, who is in, images. */
public final class LeaseTest {
    public static void main(String[] args) {
        troubles();
        arithmetic();
        values();
        rulesOfOthers();
        limit();
        judging();
        undoing();
        whoIsIn();
        images();
        Check.end();
    }

    private static void troubles() {
        ClockLodgers clock = Check.clock("tenant 5 left 6 10;tenant 8 right 5 7;tenant 3 both 4 9;tenant 12 both 3 0;");
        int[][] wrong = {{-1, 0, 0, 0}, {4, 0, 0, 0}, {0, -1, 0, 0}, {0, 3, 0, 0}, {0, 0, -1, 0}, {0, 0, 0, 24}, {0, 0, 24, 24},
            {0, 0, 5, 4}, {Integer.MIN_VALUE, 0, 0, 0}, {0, Integer.MAX_VALUE, 0, 0}, {0, 0, Integer.MIN_VALUE, 0},
            {0, 0, 0, Integer.MAX_VALUE}};
        for (int[] w : wrong) {
            Check.due("lease of nothing", 1, clock.lease(w[0], w[1], w[2], w[3]));
        }
        Check.due("STATUS 1", wrong.length, clock.count(11));
        Check.due("left one to the right", 2, clock.lease(0, 1, 0, 0));
        Check.due("right one to the left", 2, clock.lease(1, 0, 0, 0));
        Check.due("left", 0, clock.lease(0, 0, 8, 11));
        Check.due("breath ahead of what is let", 2, clock.lease(1, 0, 8, 11));
        Check.due("let at its last hour", 3, clock.lease(2, 0, 11, 13));
        Check.due("let at its first hour", 3, clock.lease(2, 0, 7, 8));
        Check.due("let to himself", 3, clock.lease(0, 0, 9, 9));
        Check.due("right", 0, clock.lease(1, 1, 10, 12));
        Check.due("he lodges elsewhere", 4, clock.lease(0, 2, 11, 12));
        Check.due("a pause with one half", 5, clock.lease(2, 2, 9, 10));
        Check.due("a pause with the other half", 5, clock.lease(2, 2, 11, 12));
        Check.due("a pause for a left one elsewhere in the day", 5, clock.lease(0, 2, 20, 20));
        Check.due("a pause", 0, clock.lease(2, 2, 10, 11));
        Check.due("a pause that is let", 3, clock.lease(3, 2, 11, 11));
        Check.due("a half day at an edge", 0, clock.lease(3, 0, 0, 7));
        Check.due("he lodges in the other half", 4, clock.lease(3, 1, 7, 9));
        Check.due("the hour behind", 0, clock.lease(3, 1, 8, 9));
        Check.due("the last hour", 0, clock.lease(3, 1, 23, 23));
    }

    /** Whether a rule of numbers holds, by the trouble of a lease under it. */
    private static void holds(String rule, boolean want) {
        ClockLodgers clock = Check.clock("tenant 5 both 12 1;rule " + rule + ";");
        Check.due("rule " + rule, want ? 0 : 6, clock.judge(0, 0, 0, 0));
    }

    private static void arithmetic() {
        holds("1", true);
        holds("0", false);
        holds("0-1", true);
        holds("2 and 4", true);
        holds("(2 and 4)=1", true);
        holds("(0 or 7)=1", true);
        holds("(not 7)=0", true);
        holds("(not 0)=1", true);
        holds("not 5", false);
        holds("not not 5", true);
        holds("not 1=2", true);
        holds("not 0=0", false);
        holds("not 0 and 0", false);
        holds("1 or 0 and 0", true);
        holds("(1 or 0) and 0", false);
        holds("0 and 0 or 1", true);
        holds("1+2*3=7", true);
        holds("(1+2)*3=9", true);
        holds("7=1+2*3", true);
        holds("10-3-2=5", true);
        holds("10-2*3=4", true);
        holds("10-6/2=7", true);
        holds("1+6/2=4", true);
        holds("10-2+3=11", true);
        holds("(1=1)=1", true);
        holds("(1<2)+(2=2)=2", true);
        holds("(1 and 2)+(0 or 3)+(not 0)=3", true);
        holds("10-(3-2)=9", true);
        holds("100/10/5=2", true);
        holds("100/(10/5)=50", true);
        holds("2*7/4=3", true);
        holds("7/4*2=2", true);
        holds("7/2=3", true);
        holds("(0-7)/2=0-3", true);
        holds("7/(0-2)=0-3", true);
        holds("5/0=0", true);
        holds("0/0=0", true);
        holds("2<3", true);
        holds("3<3", false);
        holds("3*(2<5)=3", true);
        holds("1<2 and 2<3", true);
        holds("0-9999<0", true);
        holds("9999*9999*9999=0-" + neg(9999 * 9999 * 9999), true);
        holds("4096*4096*128<0", true);
        holds("(4096*4096*128)/(0-1)<0", true);
        holds("(4096*4096*128)-1<0", false);
        holds("((((1+1)*2)*2)-7)", true);
        holds("1=1 and 2=2 and 3=4 or 5=5", true);
        holds("not not not 1 or not not 1", true);
    }

    /** 0 less it, written by numbers of four digits. */
    private static String neg(int n) {
        int m = -n;
        return "(" + (m / 10000 / 10000) + "*5000*2*5000*2+" + (m / 10000 % 10000) + "*5000*2+" + (m % 10000) + ")";
    }

    private static void values() {
        String tenants = "tenant 5 both 6 10;tenant 8 both 5 7;tenant 3 both 4 9;quarrel 0 1;quarrel 2 1;";
        ClockLodgers clock = Check.clock(tenants + "rule not half=2 or weight=3 and other=13 and quarrels=1 and hours=2;"
                + "rule not half=0 or weight=5 and hours=4 and 7<hour and hour<12;"
                + "rule not half=1 or weight=8 and (other=5 and (quarrels=1 or quarrels=2) or hour=12 and other=0 and quarrels=0);");
        Check.due("too few hours", 6, clock.judge(0, 0, 8, 10));
        Check.due("an hour too early", 6, clock.judge(0, 0, 7, 10));
        Check.due("an hour too late", 6, clock.judge(0, 0, 9, 12));
        Check.due("another weight", 6, clock.judge(1, 0, 8, 11));
        Check.due("left", 0, clock.lease(0, 0, 8, 11));
        Check.due("right with nobody to the left", 6, clock.judge(1, 1, 7, 10));
        Check.due("right", 0, clock.lease(1, 1, 9, 12));
        Check.due("a pause of one hour", 6, clock.judge(2, 2, 9, 9));
        Check.due("a pause of two", 0, clock.lease(2, 2, 9, 10));
    }

    private static void rulesOfOthers() {
        ClockLodgers clock = Check.clock("tenant 15 both 6 10;tenant 3 both 5 7;tenant 1 both 1 1;quarrel 0 2;rule other<10;rule quarrels=0;");
        Check.due("the light one", 0, clock.lease(1, 0, 0, 3));
        Check.due("the heavy one is too much for the other", 6, clock.lease(0, 1, 3, 6));
        Check.due("the heavy one behind him", 0, clock.lease(0, 1, 4, 6));
        Check.due("a foe", 6, clock.lease(2, 0, 6, 9));
        Check.due("the foe later", 0, clock.lease(2, 0, 7, 9));
        ClockLodgers pause = Check.clock("tenant 4 left 6 10;tenant 4 right 5 7;tenant 1 both 1 1;quarrel 0 2;rule half=2 or quarrels=0 and other<5;");
        pause.lease(0, 0, 1, 5);
        pause.lease(1, 1, 1, 5);
        Check.due("a pause brings a quarrel to a half", 6, pause.lease(2, 2, 2, 2));
        ClockLodgers light = Check.clock("tenant 4 left 6 10;tenant 4 right 5 7;tenant 9 both 1 1;rule half=2 or other<5;");
        light.lease(0, 0, 1, 5);
        light.lease(1, 1, 1, 5);
        Check.due("a pause is no other half", 0, light.lease(2, 2, 2, 2));
    }

    private static void limit() {
        ClockLodgers clock = Check.clock("tenant 1 both 1 1;tenant 1 both 1 1;rule hour<14;");
        for (int hour = 0; hour < 12; hour++) {
            Check.due("lease " + hour, 0, clock.lease(0, 0, hour, hour));
        }
        Check.due("the 13th", 7, clock.lease(0, 0, 13, 13));
        Check.due("the 13th against a rule", 6, clock.lease(0, 0, 14, 14));
        Check.due("the 13th where it is let", 3, clock.lease(1, 0, 3, 4));
        Check.due("LEASES", 12, clock.count(7));
        Check.due("STATUS 1", 3, clock.count(11));
        Check.due("nobody came", -1, clock.in(0, 13));
        Check.due("undo()", 11, clock.undo());
        Check.due("the 12th again", 0, clock.lease(1, 0, 13, 13));
    }

    private static void judging() {
        ClockLodgers clock = Check.clock("tenant 1 both 1 1;tenant 2 left 1 1;rule hour<20;");
        Check.due("judge", 0, clock.judge(0, 0, 0, 5));
        Check.due("judge 1", 1, clock.judge(2, 0, 0, 5));
        Check.due("judge 2", 2, clock.judge(1, 1, 0, 5));
        Check.due("judge 5", 5, clock.judge(1, 2, 0, 5));
        Check.due("judge 6", 6, clock.judge(1, 0, 0, 20));
        Check.due("nothing is granted", 0, clock.count(7));
        Check.due("nobody is in", -1, clock.in(0, 0));
        Check.due("nothing is counted", 0, clock.count(11));
    }

    private static void undoing() {
        ClockLodgers clock = Check.clock("tenant 1 left 1 1;tenant 2 right 1 1;tenant 3 both 1 1;");
        clock.lease(0, 0, 0, 5);
        clock.lease(1, 1, 2, 7);
        clock.lease(2, 2, 3, 4);
        Check.due("undo()", 2, clock.undo());
        Check.due("the pause is empty", -1, clock.in(2, 3));
        Check.due("the left stays", 0, clock.in(0, 3));
        Check.due("undo()", 1, clock.undo());
        Check.due("the right is empty", -1, clock.in(1, 7));
        Check.due("a pause now", 5, clock.judge(2, 2, 3, 4));
        Check.due("undo()", 0, clock.undo());
        Check.due("undo()", -1, clock.undo());
        Check.due("LEASES", 0, clock.count(7));
    }

    private static void whoIsIn() {
        ClockLodgers clock = Check.clock("tenant 1 left 1 1;tenant 2 right 1 1;tenant 3 both 1 1;");
        clock.lease(2, 1, 20, 23);
        Check.due("in(1, 19)", -1, clock.in(1, 19));
        Check.due("in(1, 20)", 2, clock.in(1, 20));
        Check.due("in(1, 23)", 2, clock.in(1, 23));
        Check.due("in(0, 20)", -1, clock.in(0, 20));
        Check.due("in(2, 20)", -1, clock.in(2, 20));
        Check.noSuch("in(3, 0)", () -> clock.in(3, 0));
        Check.noSuch("in(-1, 0)", () -> clock.in(-1, 0));
        Check.noSuch("in(0, 24)", () -> clock.in(0, 24));
        Check.noSuch("in(0, -1)", () -> clock.in(0, -1));
    }

    private static void images() {
        ClockLodgers clock = Check.clock("tenant 1 left 1 1;tenant 2 right 1 1;tenant 3 both 1 1;");
        clock.lease(0, 0, 0, 5);
        clock.lease(1, 1, 0, 5);
        clock.offer(0, 1, 7);
        clock.image();
        clock.lease(2, 2, 0, 1);
        clock.offer(2, 3, 8);
        clock.lease(2, 2, 0, 1);
        clock.visits(4, 0);
        Check.due("restore()", 1, clock.restore() ? 1 : 0);
        Check.due("LEASES", 2, clock.count(7));
        Check.due("OFFERS", 1, clock.count(8));
        Check.due("in(2, 0)", -1, clock.in(2, 0));
        Check.due("sublet(0)", 7, clock.sublet(0));
        Check.due("STATUS stays", 1, clock.count(11));
        Check.due("what was found stays", 0, clock.visit(2));
        clock.undo();
        clock.undo();
        clock.lease(2, 0, 4, 9);
        Check.due("restore() again", 1, clock.restore() ? 1 : 0);
        Check.due("in(0, 0)", 0, clock.in(0, 0));
        Check.due("in(0, 9)", -1, clock.in(0, 9));
        Check.due("undo() goes on from there", 1, clock.undo());
        clock.image();
        clock.undo();
        Check.due("restore() of the newer one", 1, clock.restore() ? 1 : 0);
        Check.due("LEASES", 1, clock.count(7));
    }
}
