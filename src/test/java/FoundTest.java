/** Promises 14 to 22: housed anew, by the cuckoo, visits, rents, a sum shared, offers and sublets. */
public final class FoundTest {
    public static void main(String[] args) {
        housedAnew();
        housedForTheWholeStay();
        housedByRules();
        housedByQuarrels();
        wrongHousing();
        cuckoo();
        visits();
        rents();
        shares();
        smallestRent();
        sublets();
        strangeNumbers();
        Check.end();
    }

    private static void housedAnew() {
        ClockLodgers clock = Check.clock("tenant 5 both 3 1;tenant 5 right 12 1;tenant 1 both 12 1;tenant 1 both 3 1;tenant 2 both 3 1;");
        Check.due("behind noon", 0, clock.house4(1, 0));
        Check.due("housed(0)", 12, clock.housed(0));
        Check.due("housed(1)", -1, clock.housed(1));
        Check.due("to the right", 0, clock.house4(2, 0));
        Check.due("housed(1)", 36, clock.housed(1));
        Check.due("housed(0) no more", -1, clock.housed(0));
        Check.due("two of three hours side by side", 0, clock.house4(9, 0));
        Check.due("housed(0)", 12, clock.housed(0));
        Check.due("housed(3)", 15, clock.housed(3));
        Check.due("two of twelve hours", 0, clock.house4(6, 0));
        Check.due("housed(1)", 36, clock.housed(1));
        Check.due("housed(2)", 12, clock.housed(2));
        Check.due("four", 0, clock.house4(1 + 2 + 8 + 16, 0));
        Check.due("housed(0)", 12, clock.housed(0));
        Check.due("housed(1)", 36, clock.housed(1));
        Check.due("housed(3)", 15, clock.housed(3));
        Check.due("housed(4)", 18, clock.housed(4));
        ClockLodgers oiled = Check.clock("oil 4 10;tenant 4 both 12 1;tenant 3 left 12 1;");
        oiled.lease(0, 0, 0, 23);
        Check.due("the whole morning, no leases but theirs", 0, oiled.house4(1, 0));
        Check.due("housed(0)", 0, oiled.housed(0));
        Check.due("a lighter one", 12, oiled.house4(2, 0));
        Check.due("less oil", 0, oiled.house4(2, 10));
        Check.due("27 by nine hours of the morning are nearest to 24", 3, oiled.house4(2, 20));
        Check.due("housed(1)", 3, oiled.housed(1));
    }

    /** A place from which a stay would go beyond hour 23 is none; the stay isn't cut short there. */
    private static void housedForTheWholeStay() {
        int[] lastFroms = {21, 21, 21, 18, 18, 18, 15, 15, 15, 12, 12, 12};
        for (int stay = 1; stay <= 12; stay++) {
            int from = lastFroms[stay - 1];
            String tenant = "tenant 5 both " + stay + " 1;rule ";
            ClockLodgers last = Check.clock(tenant + (from - 1) + "<hour;");
            Check.due("the last place for " + stay + " hours", 0, last.house4(1, 0));
            Check.due("housed(0)", from, last.housed(0));
            Check.due("no place behind it", -1, Check.clock(tenant + from + "<hour;").house4(1, 0));
        }
        Check.due("no other hours than the stay's", -1, Check.clock("tenant 5 both 12 1;rule hours<12;").house4(1, 0));
        ClockLodgers left = Check.clock("tenant 5 left 6 1;tenant 7 left 12 1;");
        Check.due("one half for two", 30, left.house4(3, 0));
        Check.due("housed(0)", 0, left.housed(0));
        Check.due("housed(1)", 12, left.housed(1));
        Check.due("a day is too short for three", -1,
                Check.clock("tenant 5 left 12 1;tenant 7 left 12 1;tenant 1 left 1 1;").house4(7, 0));
    }

    private static void housedByRules() {
        ClockLodgers right = Check.clock("tenant 5 both 6 1;rule half=1 and 17<hour and hours=6;");
        Check.due("to the right", 0, right.house4(1, 0));
        Check.due("housed(0)", 42, right.housed(0));
        ClockLodgers morning = Check.clock("tenant 5 both 2 1;tenant 1 both 2 1;rule hour<12;");
        Check.due("a morning's", 10, morning.house4(1, 0));
        Check.due("housed(0)", 0, morning.housed(0));
        Check.due("two of a morning", 12, morning.house4(3, 0));
        Check.due("housed(0)", 0, morning.housed(0));
        Check.due("housed(1)", 3, morning.housed(1));
        ClockLodgers night = Check.clock("tenant 5 both 3 1;tenant 1 both 3 1;rule 0<other;rule 20<hour;");
        Check.due("company until midnight", 0, night.house4(3, 0));
        Check.due("housed(0)", 21, night.housed(0));
        Check.due("housed(1)", 45, night.housed(1));
        ClockLodgers longer = Check.clock("tenant 5 both 3 1;tenant 1 both 6 1;rule 0<other;");
        Check.due("midnight makes no stay as short as another", -1, longer.house4(3, 0));
        ClockLodgers company = Check.clock("tenant 5 both 2 1;tenant 1 both 3 1;rule 0<other;");
        Check.due("no company", -1, company.house4(3, 0));
        Check.noSuch("none is kept", () -> company.housed(0));
        ClockLodgers pair = Check.clock("tenant 5 both 3 1;tenant 1 both 3 1;tenant 7 both 3 1;rule 0<other;rule not other=7;");
        Check.due("a pair", 0, pair.house4(3, 0));
        Check.due("housed(0)", 12, pair.housed(0));
        Check.due("housed(1)", 36, pair.housed(1));
        Check.due("no pair with the third", -1, pair.house4(6, 0));
        Check.due("what was kept stays", 36, pair.housed(1));
        Check.due("the third has none", -1, pair.housed(2));
    }

    private static void housedByQuarrels() {
        ClockLodgers clock = Check.clock("base 29;tenant 3 both 3 1;tenant 3 both 3 1;quarrel 0 1;");
        Check.due("a quarrel is welcome", 3, clock.house4(3, 0));
        Check.due("housed(0)", 0, clock.housed(0));
        Check.due("housed(1)", 24, clock.housed(1));
        ClockLodgers ruled = Check.clock("base 29;tenant 3 both 3 1;tenant 3 both 3 1;quarrel 0 1;rule quarrels=0;");
        Check.due("a quarrel is ruled out for the left one", 6,
                Check.clock("base 29;tenant 3 both 3 1;tenant 3 both 3 1;quarrel 0 1;rule half=1 or quarrels=0;").house4(3, 0));
        Check.due("a quarrel is ruled out", 6, ruled.house4(3, 0));
        Check.due("housed(0)", 0, ruled.housed(0));
        Check.due("housed(1)", 3, ruled.housed(1));
    }

    private static void wrongHousing() {
        ClockLodgers clock = Check.clock("tenant 1 both 1 1;tenant 1 both 1 1;tenant 1 both 1 1;tenant 1 both 1 1;tenant 1 both 1 1;");
        Check.illegal("house4(0, 0)", () -> clock.house4(0, 0));
        Check.illegal("house4(31, 0)", () -> clock.house4(31, 0));
        Check.illegal("house4(32, 0)", () -> clock.house4(32, 0));
        Check.illegal("house4(33, 0)", () -> clock.house4(33, 0));
        Check.illegal("house4(-1, 0)", () -> clock.house4(-1, 0));
        Check.illegal("house4(1, -1)", () -> clock.house4(1, -1));
        Check.illegal("house4(1, 10000)", () -> clock.house4(1, 10000));
        Check.noSuch("housed(0) of none", () -> clock.housed(0));
        Check.due("house4(30, 9999)", 0, clock.house4(30, 9999));
        Check.noSuch("housed(5)", () -> clock.housed(5));
        Check.noSuch("housed(-1)", () -> clock.housed(-1));
    }

    private static void cuckoo() {
        ClockLodgers clock = Check.clock("oil 4 2;tenant 5 left 6 10;tenant 8 right 5 7;tenant 3 both 4 9;tenant 12 both 3 0;quarrel 0 1;rule 0;");
        int[][] want = {{56, 1, 0, 0, 0}, {61, 1, 1, 1, 100}, {64, 2, 0, 7, 20}, {68, 2, 8, 8, 40}, {75, 3, 7, 7, 123}, {57, 0, 0, 0, -1}};
        for (int[] w : want) {
            for (int what = 0; what < 4; what++) {
                Check.due("cuckoo(" + w[0] + ", " + what + ")", w[what + 1], clock.cuckoo(w[0], what));
            }
        }
        Check.noSuch("cuckoo(56, 4)", () -> clock.cuckoo(56, 4));
        Check.noSuch("cuckoo(56, -1)", () -> clock.cuckoo(56, -1));
        ClockLodgers light = Check.clock("tenant 0 both 1 1;tenant 0 both 1 1;tenant 0 left 1 1;");
        // left and right: 16 less two of like ones (the third isn't right); each full couple has the third one in the pause
        Check.due("all of no weight", 1 + 2 + 3 + 4 + 4, light.cuckoo(60, 0));
        Check.due("in all", 0, light.cuckoo(60, 1));
        Check.due("in some", 7, light.cuckoo(60, 2));
        Check.due("the first", 0, light.cuckoo(60, 3));
    }

    private static void visits() {
        ClockLodgers clock = Check.clock("tenant 1 left 1 1;tenant 1 right 1 1;tenant 1 both 1 1;tenant 1 both 1 1;");
        clock.lease(0, 0, 8, 11);
        clock.lease(1, 1, 9, 12);
        clock.lease(2, 2, 9, 10);
        Check.noSuch("visit(0) of none", () -> clock.visit(0));
        Check.due("visits(7, 8)", 10, clock.visits(7, 8));
        rowOfVisits(clock, 8, 9, 10, -1);
        Check.due("visits(7, 9): the last must be 11", 11, clock.visits(7, 9));
        rowOfVisits(clock, 9, 11, 10, -1);
        Check.due("visits(7, 10)", 12, clock.visits(7, 10));
        rowOfVisits(clock, 11, 12, 10, -1);
        Check.due("visits(7, 11)", -1, clock.visits(7, 11));
        Check.due("visits of one who isn't in", -1, clock.visits(15, 0));
        rowOfVisits(clock, 11, 12, 10, -1);
        Check.due("visits(2, 0)", 9, clock.visits(2, 0));
        rowOfVisits(clock, -1, 9, -1, -1);
        clock.lease(3, 0, 23, 23);
        Check.due("the last hour", 23, clock.visits(8, 23));
        Check.due("the first as a row, not as early as can be", 23, clock.visits(9, 0));
        rowOfVisits(clock, 8, -1, -1, 23);
        clock.undo();
        Check.due("what was found stays", 23, clock.visit(3));
        Check.due("but isn't found again", -1, clock.visits(8, 23));
        Check.noSuch("visits(1, 24)", () -> clock.visits(1, 24));
        Check.noSuch("visits(0, -1)", () -> clock.visits(0, -1));
        Check.illegal("visits(0, 0)", () -> clock.visits(0, 0));
        Check.illegal("visits(16, 0)", () -> clock.visits(16, 0));
        Check.illegal("visits(-1, 0)", () -> clock.visits(-1, 0));
        Check.noSuch("visit(4)", () -> clock.visit(4));
        Check.noSuch("visit(-1)", () -> clock.visit(-1));
    }

    private static void rowOfVisits(ClockLodgers clock, int... hours) {
        for (int tenant = 0; tenant < hours.length; tenant++) {
            Check.due("visit(" + tenant + ")", hours[tenant], clock.visit(tenant));
        }
    }

    private static void rents() {
        ClockLodgers clock = Check.clock("tenant 1 left 1 10;tenant 1 right 1 7;tenant 1 both 1 9;tenant 1 both 1 99;");
        Check.due("no lease", 0, clock.rent(0));
        clock.lease(0, 0, 0, 11);
        clock.lease(1, 1, 0, 11);
        clock.lease(2, 2, 0, 0);
        Check.due("half of 9, cut up", 5, clock.rent(2));
        clock.lease(2, 2, 5, 6);
        Check.due("half of 27, cut up", 14, clock.rent(2));
        clock.lease(2, 1, 20, 21);
        Check.due("and 18", 32, clock.rent(2));
        Check.due("rent(0)", 120, clock.rent(0));
        Check.due("rent(1)", 84, clock.rent(1));
        Check.noSuch("rent(4)", () -> clock.rent(4));
        Check.noSuch("rent(-1)", () -> clock.rent(-1));
    }

    private static void shares() {
        ClockLodgers clock = Check.clock("tenant 1 left 1 1;tenant 1 right 1 1;tenant 1 both 1 1;tenant 1 both 1 5;");
        for (int tenant = 0; tenant < 4; tenant++) {
            Check.due("no rents", 0, clock.shared(tenant, 100));
        }
        clock.lease(0, 0, 0, 0);
        clock.lease(1, 1, 1, 1);
        clock.lease(2, 0, 2, 2);
        int[][] thirds = {{0, 0, 0}, {1, 0, 0}, {1, 1, 0}, {1, 1, 1}, {2, 1, 1}, {34, 33, 33}};
        int[] sums = {0, 1, 2, 3, 4, 100};
        for (int i = 0; i < sums.length; i++) {
            int sum = sums[i];
            for (int tenant = 0; tenant < 3; tenant++) {
                Check.due("shared(" + tenant + ", " + sum + ")", thirds[i][tenant], clock.shared(tenant, sum));
            }
            Check.due("shared(3, " + sum + ")", 0, clock.shared(3, sum));
        }
        clock.lease(3, 1, 3, 3);
        // rents 1, 1, 1, 5 of 8: of 7 these are 7/8 thrice and 35/8
        int[] seven = {1, 1, 1, 4};
        for (int tenant = 0; tenant < 4; tenant++) {
            Check.due("shared(" + tenant + ", 7)", seven[tenant], clock.shared(tenant, 7));
        }
        Check.due("shared(3, 9999)", 6249, clock.shared(3, 9999));
        Check.due("shared(0, 9999)", 1250, clock.shared(0, 9999));
        Check.noSuch("shared(4, 1)", () -> clock.shared(4, 1));
        Check.noSuch("shared(-1, -1)", () -> clock.shared(-1, -1));
        Check.illegal("shared(0, -1)", () -> clock.shared(0, -1));
        Check.illegal("shared(0, 10000)", () -> clock.shared(0, 10000));
    }

    private static void smallestRent() {
        ClockLodgers clock = Check.clock("tenant 1 left 1 1;tenant 1 right 1 0;");
        clock.lease(0, 0, 5, 5);
        clock.lease(1, 1, 5, 5);
        Check.due("all for a rent of 1", 777, clock.shared(0, 777));
        Check.due("none for no rent", 0, clock.shared(1, 777));
    }

    private static void sublets() {
        ClockLodgers clock = Check.clock("tenant 1 left 1 1;tenant 1 right 1 1;tenant 1 both 1 1;");
        int[][] wrong = {{-1, 0, 1}, {0, 24, 1}, {24, 24, 1}, {5, 4, 1}, {0, 0, -1}, {0, 0, 100}, {Integer.MIN_VALUE, Integer.MAX_VALUE, 0}};
        for (int[] w : wrong) {
            Check.due("a wrong offer", -1, clock.offer(w[0], w[1], w[2]));
        }
        Check.due("STATUS 2", wrong.length, clock.count(12));
        Check.due("OFFERS", 0, clock.count(8));
        Check.due("no offers", 0, clock.sublet(0) + clock.sublet(1));
        Check.due("offer 0", 1, clock.offer(2, 3, 10));
        Check.due("nobody to sublet", 0, clock.sublet(0));
        clock.lease(0, 0, 2, 12);
        Check.due("half of it is let", 0, clock.sublet(0));
        clock.lease(1, 1, 1, 11);
        Check.due("the pause is free", 10, clock.sublet(0));
        Check.due("the set", 1, clock.sublet(1));
        Check.due("offer 1", 2, clock.offer(3, 5, 15));
        Check.due("offer 2", 3, clock.offer(4, 5, 5));
        Check.due("of like ones the least as bits", 15, clock.sublet(0));
        Check.due("the set", 2, clock.sublet(1));
        Check.due("offer 3 out of the day let", 4, clock.offer(11, 12, 99));
        Check.due("offer 4 without coins", 5, clock.offer(7, 7, 0));
        Check.due("offer 5", 6, clock.offer(8, 9, 99));
        Check.due("the most", 114, clock.sublet(0));
        Check.due("the set", 2 + 32, clock.sublet(1));
        clock.lease(2, 2, 9, 9);
        Check.due("a pause that is let", 15, clock.sublet(0));
        Check.due("offer 6", 7, clock.offer(10, 10, 3));
        Check.due("offer 7", 8, clock.offer(6, 6, 4));
        Check.due("offer 8", -1, clock.offer(6, 6, 4));
        Check.due("STATUS 2", wrong.length + 1, clock.count(12));
        Check.due("COINS", 22, clock.sublet(0));
        Check.due("OFFERS taken", 2 + 64 + 128, clock.sublet(1));
        Check.noSuch("sublet(2)", () -> clock.sublet(2));
        Check.noSuch("sublet(-1)", () -> clock.sublet(-1));
    }

    /** The greatest and least numbers everywhere: an answer or what the document names, never the machine's own. */
    private static void strangeNumbers() {
        ClockLodgers clock = Check.clock("tenant 20 both 12 99;tenant 1 left 1 1;quarrel 0 1;rule weight*hour+other<9999;");
        int[] strange = {Integer.MIN_VALUE, -1, 0, 1, 2, 23, 24, 60, 9999, 10000, Integer.MAX_VALUE};
        for (int a : strange) {
            for (int b : strange) {
                for (int c : strange) {
                    fine(() -> clock.lease(a, b, c, c));
                    fine(() -> clock.judge(a, 0, b, c));
                    fine(() -> clock.offer(a, b, c));
                    fine(() -> clock.slow(a, b, c));
                    fine(() -> clock.wind(a, b, c));
                    fine(() -> clock.both(a, b, c, 1));
                }
                fine(() -> clock.tenant(a, b));
                fine(() -> clock.in(a, b));
                fine(() -> clock.swing(a, b));
                fine(() -> clock.slowBy(a, b));
                fine(() -> clock.house4(a, b));
                fine(() -> clock.cuckoo(a, b));
                fine(() -> clock.visits(a, b));
                fine(() -> clock.shared(a, b));
            }
            fine(() -> clock.count(a));
            fine(() -> clock.housed(a));
            fine(() -> clock.visit(a));
            fine(() -> clock.rent(a));
            fine(() -> clock.sublet(a));
            fine(() -> clock.wedding(a));
            fine(() -> clock.birthday(a));
            fine(() -> clock.feed(a, a, a, a, a));
            fine(() -> clock.house(a));
        }
    }

    private static void fine(Check.Call call) {
        String answer = Check.answerOf(call);
        Check.due("the machine threw: " + answer, 0, answer.startsWith("the machine's") ? 1 : 0);
    }
}
