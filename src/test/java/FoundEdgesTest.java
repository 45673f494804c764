/** The edges that the document names in its part 3 and in promises 14 to 18: a test for each sentence. */
public final class FoundEdgesTest {
    private static final int LEAST = Integer.MIN_VALUE;
    private static final int MOST = Integer.MAX_VALUE;
    private static final String LIGHT = "tenant 0 both 12 1;";

    public static void main(String[] args) {
        housedWho();
        housedWhere();
        housedHow();
        housedAnswers();
        cuckooCases();
        cuckooAnswers();
        visitsWhen();
        visitsAnswers();
        Check.end();
    }

    /** Where each TENANT is housed, by the way that is kept. */
    private static void rowOfHoused(ClockLodgers clock, int... places) {
        for (int tenant = 0; tenant < places.length; tenant++) {
            Check.due("housed(" + tenant + ")", places[tenant], clock.housed(tenant));
        }
    }

    private static void housedWho() {
        oneToFour();
        noLeasesButTheirs();
        bitsOfTenants();
    }

    private static void oneToFour() {
        Check.sentence("HOUSED ANEW are some TENANTS (1 to 4 of them");
        ClockLodgers clock = Check.clock("tenant 0 both 1 1;".repeat(6));
        int[] some = {1, 32, 33, 7, 56, 15, 60, 45};
        for (int tenants : some) {
            Check.due("house4(" + tenants + ", 0)", 0, clock.house4(tenants, 0));
            for (int tenant = 0; tenant < 6; tenant++) {
                boolean isOne = (tenants >> tenant & 1) != 0;
                Check.due("TENANT " + tenant + " of " + tenants, isOne, clock.housed(tenant) != -1);
            }
        }
        for (int tenants : new int[] {31, 47, 55, 59, 61, 62, 63}) {
            Check.illegal("more than 4: " + tenants, () -> clock.house4(tenants, 0));
        }
        Check.illegal("none", () -> clock.house4(0, 0));
    }

    private static void noLeasesButTheirs() {
        Check.sentence("no LEASES but theirs)");
        ClockLodgers clock = Check.clock("tenant 9 left 12 1;tenant 9 right 1 1;rule other=0;");
        clock.lease(0, 0, 0, 23);
        Check.due("his own LEASE isn't in the way", 0, clock.house4(1, 0));
        rowOfHoused(clock, 12, -1);
        Check.due("another's LEASE is nobody's other", 0, clock.house4(2, 0));
        rowOfHoused(clock, -1, 36);
        Check.due("LEASES stay", 1, clock.count(7));
        Check.due("who is in stays", 0, clock.in(0, 0));
    }

    private static void bitsOfTenants() {
        Check.sentence("IllegalArgumentException: it is no DAY; bits of TENANTS that there aren't, none, more than 4.");
        for (int tenants = 0; tenants <= 6; tenants++) {
            ClockLodgers clock = Check.clock("tenant 0 both 1 1;".repeat(tenants));
            int next = 1 << tenants;
            for (int bits : new int[] {0, -1, LEAST, MOST, next, next + 1, 64, 128, 1 << 30, LEAST + 1}) {
                boolean fine = bits > 0 && bits < next;
                if (!fine) {
                    Check.illegal("house4(" + bits + ", 0) of " + tenants, () -> clock.house4(bits, 0));
                }
            }
            if (tenants > 0) {
                Check.noSuch("none is kept", () -> clock.housed(0));
                Check.due("the last of " + tenants, 0, clock.house4(1 << tenants - 1, 0));
                Check.due("the last of " + tenants, 0, clock.house4(1 << tenants - 1, 9999));
            }
            Check.illegal("DAY -1", () -> clock.house4(1, -1));
            Check.illegal("DAY 10000", () -> clock.house4(1, 10000));
        }
    }

    private static void housedWhere() {
        breathLets();
        hoursByThree();
        forHisStay();
        noTwoInOneHalf();
        allRulesHold();
    }

    private static void breathLets() {
        Check.sentence("each in a half that his BREATH lets (not the pause)");
        String[] breaths = {"left", "right", "both"};
        int[] places = {0, 24, 0};
        for (int i = 0; i < breaths.length; i++) {
            ClockLodgers clock = Check.clock("tenant 0 " + breaths[i] + " 1 1;");
            Check.due("house4(1, 0)", 0, clock.house4(1, 0));
            Check.due(breaths[i], places[i], clock.housed(0));
            ClockLodgers other = Check.clock("tenant 0 " + breaths[i] + " 1 1;rule half=" + (i == 0 ? 1 : 0) + ";");
            Check.due("to the other side", i == 2 ? 0 : -1, other.house4(1, 0));
            Check.due("to the pause", -1, Check.clock("tenant 0 " + breaths[i] + " 1 1;rule half=2;").house4(1, 0));
        }
        ClockLodgers full = Check.clock("tenant 0 left 12 1;".repeat(2) + "tenant 0 right 12 1;".repeat(2) + LIGHT);
        Check.due("four for both halves", 0, full.house4(15, 0));
        rowOfHoused(full, 0, 12, 24, 36);
        Check.due("the pause isn't for the third to the left", -1,
                Check.clock("tenant 0 left 12 1;".repeat(3) + "tenant 0 right 12 1;").house4(15, 0));
    }

    private static void hoursByThree() {
        Check.sentence("FROM one of the HOURS 0, 3, 6 .. 21");
        for (int hour = 0; hour <= 23; hour++) {
            for (int half = 0; half <= 1; half++) {
                ClockLodgers clock = Check.clock("tenant 0 both 1 1;rule hour=" + hour + " and half=" + half + ";");
                Check.due("HOUR " + hour, hour % 3 == 0 ? 0 : -1, clock.house4(1, 0));
                if (hour % 3 == 0) {
                    Check.due("housed(0)", 24 * half + hour, clock.housed(0));
                }
            }
        }
    }

    private static void forHisStay() {
        Check.sentence("for his STAY (up to HOUR 23)");
        for (int stay = 1; stay <= 12; stay++) {
            String tenant = "tenant 0 both " + stay + " 1;";
            int last = (24 - stay) / 3 * 3;
            for (int from = 0; from <= 21; from += 3) {
                ClockLodgers clock = Check.clock(tenant + "rule half=0 and " + from + "<hour+1;");
                Check.due("STAY " + stay + " FROM " + from, from <= last ? 0 : -1, clock.house4(1, 0));
                if (from <= last) {
                    Check.due("housed(0)", from, clock.housed(0));
                }
                int end = from + stay;
                Check.due("STAY " + stay + " as long", from <= last ? 0 : -1,
                        Check.clock(tenant + "rule " + from + "<hour+1 and hour<" + end + ";").house4(1, 0));
                Check.due("STAY " + stay + " in less", -1,
                        Check.clock(tenant + "rule " + from + "<hour+1 and hour<" + (end - 1) + ";").house4(1, 0));
            }
            Check.due("hours=" + stay, 0, Check.clock(tenant + "rule hours=" + stay + ";").house4(1, 0));
            Check.due("hours=" + (stay - 1), -1, Check.clock(tenant + "rule hours<" + stay + ";").house4(1, 0));
        }
    }

    private static void noTwoInOneHalf() {
        Check.sentence("no two in one half in one HOUR");
        int[] behind = {0, 3, 3, 3, 6, 6, 6, 9, 9, 9, 12, 12, 12};
        for (int stay = 1; stay <= 12; stay++) {
            ClockLodgers clock = Check.clock(("tenant 0 both " + stay + " 1;").repeat(2));
            Check.due("two of " + stay, 0, clock.house4(3, 0));
            rowOfHoused(clock, 0, behind[stay]);
        }
        ClockLodgers full = Check.clock(LIGHT.repeat(4));
        Check.due("four of 12 fill both halves", 0, full.house4(15, 0));
        rowOfHoused(full, 0, 12, 24, 36);
        ClockLodgers left = Check.clock("tenant 0 left 12 1;tenant 0 left 9 1;tenant 0 left 3 1;tenant 0 left 1 1;");
        Check.due("three fill the left half", 0, left.house4(7, 0));
        rowOfHoused(left, 0, 12, 21, -1);
        Check.due("a fourth has no room", -1, left.house4(15, 0));
        ClockLodgers sides = Check.clock("tenant 0 both 12 1;tenant 0 both 12 1;rule hour<12;");
        Check.due("one HOUR in two halves", 0, sides.house4(3, 0));
        rowOfHoused(sides, 0, 24);
    }

    private static void allRulesHold() {
        Check.sentence("such that all RULES hold of all");
        String two = "tenant 2 both 3 1;tenant 4 both 3 1;";
        Check.due("not of the second", -1, Check.clock(two + "rule weight<4;").house4(3, 0));
        Check.due("not of the first", -1, Check.clock(two + "rule 2<weight;").house4(3, 0));
        Check.due("not the fourth RULE", -1, Check.clock(two + "rule 1;rule 1;rule 1;rule half=2;").house4(3, 0));
        ClockLodgers company = Check.clock(two + "rule 0<other;");
        Check.due("company", 0, company.house4(3, 0));
        rowOfHoused(company, 12, 36);
        Check.due("one alone has none", -1, company.house4(1, 0));
        ClockLodgers alone = Check.clock(two + "rule other=0;rule hour<3;");
        Check.due("two alone in one place", -1, alone.house4(3, 0));
        Check.due("one alone", 6, alone.house4(1, 0));
        ClockLodgers needsCompany = Check.clock(two + "rule weight=4 or 0<other;");
        Check.due("the first alone needs company", 0, needsCompany.house4(3, 0));
        rowOfHoused(needsCompany, 12, 36);
        String sides = "tenant 2 left 3 1;tenant 4 right 4 1;rule other=0;rule hour<";
        ClockLodgers beside = Check.clock(sides + "7;");
        Check.due("one behind the other", 22, beside.house4(3, 0));
        rowOfHoused(beside, 0, 27);
        Check.due("the other's last HOUR would be his first", -1, Check.clock(sides + "6;").house4(3, 0));
    }

    private static void housedHow() {
        fromZeroToEleven();
        nearestToZero();
        nearerLater();
        otherHouseAhead();
        firstOfLikeOnes();
        onADay();
    }

    private static void fromZeroToEleven() {
        Check.sentence("SLOW from HOUR 0 to 11 of a DAY");
        for (int from = 0; from <= 21; from += 3) {
            ClockLodgers clock = Check.clock("tenant 5 left 3 1;rule " + from + "<hour+1 and hour<" + (from + 3) + ";");
            Check.due("FROM " + from, from < 12 ? 15 : 0, clock.house4(1, 0));
        }
        ClockLodgers noon = Check.clock("tenant 1 left 12 1;rule 8<hour and hour<21;");
        Check.due("FROM 9 for 12 HOURS", 3, noon.house4(1, 0));
        ClockLodgers quarrel = Check.clock("tenant 0 left 4 1;tenant 0 right 4 1;quarrel 0 1;rule 8<hour and hour<13;");
        Check.due("a quarrel FROM 9 to 12", 9, quarrel.house4(3, 0));
    }

    private static void nearestToZero() {
        Check.sentence("is as near to 0 as can be");
        ClockLodgers above = Check.clock("base 31;tenant 1 left 1 1;");
        Check.due("above, whatever they do", 24, above.house4(1, 0));
        rowOfHoused(above, 12);
        ClockLodgers below = Check.clock("base 29;tenant 1 left 1 1;");
        Check.due("below, whatever they do", 23, below.house4(1, 0));
        rowOfHoused(below, 0);
        ClockLodgers passing = Check.clock("oil 5 1;tenant 9 left 12 1;");
        // 60 below: 108, 81, 54, 27 or 0 above it
        Check.due("6 below is nearer than 21 above", 6, passing.house4(1, 0));
        rowOfHoused(passing, 6);
        ClockLodgers farthest = Check.clock("base 60;tenant 20 both 12 1;tenant 20 both 12 1;tenant 20 both 12 1;"
                + "tenant 20 both 12 1;quarrel 0 1;quarrel 2 3;quarrel 0 2;quarrel 1 3;quarrel 0 3;quarrel 1 2;");
        Check.due("the farthest there is", 12 * (60 + 20 + 20 + 3), farthest.house4(15, 0));
        Check.due("the farthest below", 12 * 50, Check.clock("base 20;oil 30 1;tenant 0 left 1 1;").house4(1, 0));
    }

    /** The first TENANT's first place is the worst for both: what comes later is nearer. */
    private static void nearerLater() {
        Check.sentence("as near to 0 as can be, of like ones the first");
        ClockLodgers weight = Check.clock("base 29;tenant 0 left 3 1;tenant 9 left 3 1;rule weight=0 or hour<3 or 11<hour;");
        Check.due("by the WEIGHT of the second", 3, weight.house4(3, 0));
        rowOfHoused(weight, 3, 0);
        ClockLodgers quarrel = Check.clock("base 29;tenant 0 left 3 1;tenant 0 right 3 1;quarrel 0 1;rule half=0 or 2<hour;");
        Check.due("by their quarrel", 15, quarrel.house4(3, 0));
        rowOfHoused(quarrel, 3, 27);
        ClockLodgers again = Check.clock("base 29;tenant 9 left 3 1;tenant 9 left 3 1;tenant 20 left 3 1;tenant 20 both 12 1;");
        Check.due("four of them", 3, again.house4(15, 0));
        Check.due("one of them", 3, again.house4(1, 0));
        rowOfHoused(again, 0, -1, -1, -1);
        Check.due("two of them", 3, again.house4(3, 0));
        Check.due("one of them", 3, again.house4(2, 0));
        rowOfHoused(again, -1, 0, -1, -1);
    }

    private static void otherHouseAhead() {
        Check.sentence("HOUSED ANEW are some TENANTS");
        ClockLodgers clock = Check.clock("tenant 5 both 3 1;tenant 5 both 3 1;");
        Check.due("both halves", 0, clock.house4(3, 0));
        Check.due("another house", 0, Check.read(clock, "tenant 5 left 3 1;tenant 5 left 12 1;rule hour<12;"));
        Check.due("one half, in the morning", 15, clock.house4(1, 0));
        rowOfHoused(clock, 0, -1);
        Check.due("all the morning", 60, clock.house4(2, 0));
        Check.due("no room for both", -1, clock.house4(3, 0));
    }

    private static void firstOfLikeOnes() {
        Check.sentence("of like ones the first as a row of TENANTS (24 by the half and FROM)");
        // 60 below, and 72 or 48 by his HOURS of the morning: 12 above or 12 below
        ClockLodgers above = Check.clock("oil 5 99;tenant 8 left 12 1;");
        Check.due("12 above is as near as 12 below", 12, above.house4(1, 0));
        rowOfHoused(above, 3);
        ClockLodgers below = Check.clock("oil 5 99;tenant 8 both 12 1;rule half=1 or 5<hour;");
        Check.due("12 below is as near as 12 above", 12, below.house4(1, 0));
        rowOfHoused(below, 6);
        ClockLodgers row = Check.clock("tenant 0 both 3 1;tenant 0 both 3 1;rule half=1 or 2<hour;");
        Check.due("the first TENANT has the first place", 0, row.house4(3, 0));
        rowOfHoused(row, 3, 6);
        ClockLodgers second = Check.clock("tenant 0 both 3 1;tenant 0 left 12 1;rule weight=0;rule hours=3 or hour<12;");
        Check.due("the first TENANT first, though the second has one place", 0, second.house4(3, 0));
        rowOfHoused(second, 12, 0);
        ClockLodgers others = Check.clock("tenant 0 both 3 1;".repeat(6));
        Check.due("of TENANTS 1, 3 and 5", 0, others.house4(42, 0));
        rowOfHoused(others, -1, 0, -1, 3, -1, 6);
    }

    private static void onADay() {
        Check.sentence("of a DAY is as near to 0 as can be");
        ClockLodgers clock = Check.clock("oil 2 99;tenant 1 left 12 1;");
        int[][] far = {{0, 12, 0}, {98, 12, 0}, {99, 0, 0}, {197, 0, 0}, {198, 0, 12}, {9999, 0, 12}};
        for (int[] row : far) {
            Check.due("house4(1, " + row[0] + ")", row[1], clock.house4(1, row[0]));
            Check.due("housed(0)", row[2], clock.housed(0));
        }
    }

    private static void housedAnswers() {
        noWay();
        whereHoused();
    }

    private static void noWay() {
        Check.sentence("HOUSED ANEW: how far SLOW is from 0; it is kept; NONE: no way.");
        ClockLodgers clock = Check.clock("tenant 0 left 12 1;tenant 5 left 12 1;tenant 0 left 1 1;");
        Check.due("no way", -1, clock.house4(7, 0));
        Check.noSuch("none is kept", () -> clock.housed(0));
        Check.due("a way", 0, clock.house4(3, 0));
        rowOfHoused(clock, 0, 12, -1);
        Check.due("no way", -1, clock.house4(7, 0));
        rowOfHoused(clock, 0, 12, -1);
        Check.illegal("a wrong call", () -> clock.house4(8, 0));
        rowOfHoused(clock, 0, 12, -1);
        Check.due("another way", 0, clock.house4(4, 0));
        rowOfHoused(clock, -1, -1, 0);
        clock.lease(0, 0, 0, 0);
        clock.image();
        clock.undo();
        clock.restore();
        rowOfHoused(clock, -1, -1, 0);
    }

    private static void whereHoused() {
        Check.sentence("NONE: he isn't one of them. NoSuchElementException: also none is kept.");
        ClockLodgers clock = Check.clock("tenant 0 right 3 1;tenant 0 left 3 1;");
        Check.noSuch("none is kept", () -> clock.housed(0));
        Check.noSuch("none is kept", () -> clock.housed(1));
        Check.noSuch("no such TENANT, none is kept", () -> clock.housed(2));
        clock.house4(1, 0);
        rowOfHoused(clock, 24, -1);
        for (int tenant : new int[] {-1, 2, 6, LEAST, MOST}) {
            Check.noSuch("housed(" + tenant + ")", () -> clock.housed(tenant));
        }
        ClockLodgers last = Check.clock("tenant 0 both 3 1;rule half=1 and 20<hour;");
        last.house4(1, 0);
        Check.due("the last place of all", 45, last.housed(0));
        Check.due("a new house", 0, Check.read(last, "tenant 0 both 3 1;"));
        Check.noSuch("none is kept any more", () -> last.housed(0));
    }

    /** All four answers about a SWING. */
    private static void cases(ClockLodgers clock, int swing, int howMany, int inAll, int inSome, int first) {
        int[] want = {howMany, inAll, inSome, first};
        for (int what = 0; what < want.length; what++) {
            Check.due("cuckoo(" + swing + ", " + what + ")", want[what], clock.cuckoo(swing, what));
        }
    }

    private static void cuckooCases() {
        ofDayZero();
        whomBreathLets();
        pauseOfAnyOne();
        noPauseWithoutBoth();
        allUnlike();
        justSoLong();
    }

    private static void ofDayZero() {
        Check.sentence("BY THE CUCKOO a SWING of DAY 0 took so long");
        ClockLodgers clock = Check.clock("oil 30 1;tenant 5 left 1 1;rule 0;");
        cases(clock, 30, 1, 0, 0, 0);
        cases(clock, 35, 1, 1, 1, 100);
        cases(clock, 60, 0, 0, 0, -1);
        cases(clock, 31, 0, 0, 0, -1);
        clock.lease(0, 0, 0, 23);
        cases(clock, 30, 1, 0, 0, 0);
    }

    private static void whomBreathLets() {
        Check.sentence("who was left (none, or one whom BREATH lets), who was right");
        ClockLodgers clock = Check.clock("tenant 1 left 1 1;tenant 2 right 1 1;tenant 4 both 1 1;");
        cases(clock, 61, 1, 1, 1, 100);
        cases(clock, 62, 1, 2, 2, 20);
        cases(clock, 64, 2, 4, 4, 30);
        cases(clock, 63, 1, 3, 3, 120);
        cases(clock, 65, 1, 5, 5, 130);
        cases(clock, 66, 1, 6, 6, 320);
    }

    private static void pauseOfAnyOne() {
        Check.sentence("who in the pause (any one, or none");
        ClockLodgers clock = Check.clock("tenant 1 left 1 1;tenant 2 right 1 1;tenant 4 left 1 1;tenant 8 right 1 1;");
        cases(clock, 63, 1, 3, 3, 120);
        // the third one in the pause, or the first one
        cases(clock, 67, 2, 7, 7, 123);
        cases(clock, 71, 2, 11, 11, 124);
        cases(clock, 75, 0, 0, 0, -1);
    }

    private static void noPauseWithoutBoth() {
        Check.sentence("none, if not both halves are let)");
        ClockLodgers left = Check.clock("tenant 1 left 1 1;tenant 2 left 1 1;");
        cases(left, 63, 0, 0, 0, -1);
        ClockLodgers right = Check.clock("tenant 1 right 1 1;tenant 2 right 1 1;");
        cases(right, 63, 0, 0, 0, -1);
        ClockLodgers two = Check.clock("tenant 1 both 1 1;tenant 2 both 1 1;");
        cases(two, 63, 2, 3, 3, 120);
    }

    private static void allUnlike() {
        Check.sentence("all unlike");
        ClockLodgers one = Check.clock("tenant 7 both 1 1;");
        cases(one, 67, 2, 1, 1, 10);
        cases(one, 74, 0, 0, 0, -1);
        ClockLodgers two = Check.clock("tenant 1 both 1 1;tenant 3 both 1 1;");
        cases(two, 62, 0, 0, 0, -1);
        cases(two, 65, 0, 0, 0, -1);
        cases(two, 67, 0, 0, 0, -1);
        cases(two, 64, 2, 3, 3, 120);
    }

    private static void justSoLong() {
        Check.sentence("by whom it takes just so long");
        ClockLodgers clock = Check.clock("tenant 10 both 1 1;tenant 10 both 1 1;tenant 10 both 1 1;quarrel 0 1;quarrel 1 2;");
        cases(clock, 79, 0, 0, 0, -1);
        cases(clock, 80, 2, 5, 5, 130);
        cases(clock, 83, 4, 2, 7, 120);
        cases(clock, 96, 6, 7, 7, 123);
        cases(clock, 95, 0, 0, 0, -1);
        cases(clock, 97, 0, 0, 0, -1);
        for (int swing : new int[] {LEAST, -1, 0, 1, 2, 59, MOST}) {
            cases(clock, swing, 0, 0, 0, -1);
        }
    }

    private static void cuckooAnswers() {
        firstCase();
        withoutCases();
        anotherWhatOfTheCuckoo();
    }

    private static void firstCase() {
        Check.sentence("the first by left, right, pause (none ahead of all)");
        ClockLodgers light = Check.clock("tenant 0 both 1 1;".repeat(6));
        // nobody; one in either half; 30 couples, each alone or with one of four others
        cases(light, 60, 1 + 12 + 30 + 120, 0, 63, 0);
        ClockLodgers right = Check.clock("tenant 5 both 1 1;tenant 5 right 1 1;");
        cases(right, 65, 3, 0, 3, 10);
        ClockLodgers pause = Check.clock("tenant 2 both 1 1;tenant 3 both 1 1;tenant 5 both 1 1;tenant 0 both 1 1;");
        Check.due("a couple without a pause ahead of one with", 30, pause.cuckoo(65, 3));
        ClockLodgers couple = Check.clock("tenant 2 left 1 1;tenant 3 right 1 1;tenant 0 both 1 1;");
        Check.due("none in the pause first", 120, couple.cuckoo(65, 3));
        // the pause is for any of the three, or for none
        cases(couple, 65, 4, 3, 7, 120);
    }

    private static void withoutCases() {
        Check.sentence("as bits (0 without CASES), the first (3): 100 by left and 1, 10 by right and 1, pause and 1 (0 for nobody); "
                + "NONE: none.");
        ClockLodgers clock = Check.clock("tenant 0 both 1 1;".repeat(3) + "tenant 5 left 1 1;tenant 9 right 1 1;tenant 20 both 1 1;"
                + "quarrel 3 4;quarrel 3 5;quarrel 4 5;");
        // left is the fourth or the sixth, right is the fifth or the sixth
        cases(clock, 60 + 34 + 9, 3, 56, 56, 456);
        Check.due("the last one to the left", 650, Check.clock("tenant 1 right 1 1;".repeat(4)
                + "tenant 9 right 1 1;tenant 20 left 1 1;").cuckoo(89, 3));
        Check.due("the last one in the pause", 126, Check.clock("tenant 1 left 1 1;tenant 1 right 1 1;"
                + "tenant 0 right 1 1;".repeat(3) + "tenant 20 right 1 1;").cuckoo(82, 3));
        cases(clock, 104, 0, 0, 0, -1);
        cases(new ClockLodgers(), 60, 1, 0, 0, 0);
        cases(new ClockLodgers(), 61, 0, 0, 0, -1);
    }

    private static void anotherWhatOfTheCuckoo() {
        Check.sentence("NONE: none. NoSuchElementException: another what.");
        ClockLodgers clock = new ClockLodgers();
        for (int what : new int[] {-1, 4, LEAST, MOST}) {
            Check.noSuch("cuckoo(60, " + what + ")", () -> clock.cuckoo(60, what));
            Check.noSuch("cuckoo(61, " + what + ")", () -> clock.cuckoo(61, what));
        }
    }

    private static void rowOfVisits(ClockLodgers clock, int... hours) {
        for (int tenant = 0; tenant < hours.length; tenant++) {
            Check.due("visit(" + tenant + ")", hours[tenant], clock.visit(tenant));
        }
    }

    private static void visitsWhen() {
        oneInEachHour();
        whileHeIsIn();
        fromAnHourOn();
        leastLastHour();
        firstRowOfHours();
    }

    private static void oneInEachHour() {
        Check.sentence("VISITS on the hour: one TENANT in each HOUR");
        ClockLodgers clock = Check.clock("tenant 0 both 1 1;".repeat(3));
        clock.lease(0, 0, 5, 6);
        clock.lease(1, 1, 5, 6);
        clock.lease(2, 2, 5, 6);
        Check.due("two in two HOURS", 6, clock.visits(3, 0));
        rowOfVisits(clock, 5, 6, -1);
        Check.due("three in two HOURS", -1, clock.visits(7, 0));
        Check.due("two in one HOUR", -1, clock.visits(3, 6));
        Check.due("one in one HOUR", 6, clock.visits(2, 6));
    }

    private static void whileHeIsIn() {
        Check.sentence("while he is in (in any half)");
        ClockLodgers clock = Check.clock("tenant 0 both 1 1;".repeat(4));
        clock.lease(0, 0, 0, 0);
        clock.lease(1, 1, 0, 0);
        clock.lease(2, 2, 0, 0);
        clock.lease(2, 1, 23, 23);
        Check.due("to the left", 0, clock.visits(1, 0));
        Check.due("to the right", 0, clock.visits(2, 0));
        Check.due("in the pause", 0, clock.visits(4, 0));
        Check.due("in the last HOUR", 23, clock.visits(4, 1));
        Check.due("one who isn't in", -1, clock.visits(8, 0));
        Check.due("one who isn't in, among others", -1, clock.visits(9, 0));
    }

    private static void fromAnHourOn() {
        Check.sentence("from an HOUR on");
        ClockLodgers clock = Check.clock("tenant 0 both 1 1;");
        clock.lease(0, 0, 3, 4);
        clock.lease(0, 0, 22, 22);
        int[] want = {3, 3, 3, 3, 4, 22, 22, 22, 22, 22, 22, 22, 22, 22, 22, 22, 22, 22, 22, 22, 22, 22, 22, -1};
        for (int hour = 0; hour <= 23; hour++) {
            Check.due("visits(1, " + hour + ")", want[hour], clock.visits(1, hour));
        }
    }

    private static void leastLastHour() {
        Check.sentence("some TENANTS (bits), each once: the least last HOUR (up to 23)");
        ClockLodgers clock = Check.clock("tenant 0 both 1 1;".repeat(6));
        for (int tenant = 0; tenant < 6; tenant++) {
            clock.lease(tenant, tenant % 2, 23 - tenant, 23 - tenant);
        }
        Check.due("all six", 23, clock.visits(63, 18));
        rowOfVisits(clock, 23, 22, 21, 20, 19, 18);
        Check.due("an HOUR too late", -1, clock.visits(63, 19));
        Check.due("all but the last", 23, clock.visits(31, 19));
        ClockLodgers free = Check.clock("tenant 0 both 1 1;".repeat(2));
        free.lease(0, 0, 0, 23);
        free.lease(1, 1, 1, 23);
        Check.due("as soon as can be", 1, free.visits(3, 0));
        rowOfVisits(free, 0, 1);
        Check.due("up to 23", 23, free.visits(3, 22));
        Check.due("not beyond 23", -1, free.visits(3, 23));
        Check.due("one in HOUR 23", 23, free.visits(1, 23));
    }

    private static void firstRowOfHours() {
        Check.sentence("of like ones the first as a row of HOURS by TENANTS");
        ClockLodgers clock = Check.clock("tenant 0 both 1 1;".repeat(3));
        clock.lease(0, 0, 0, 9);
        clock.lease(1, 1, 0, 9);
        clock.lease(2, 0, 12, 12);
        Check.due("both orders are as soon", 1, clock.visits(3, 0));
        rowOfVisits(clock, 0, 1, -1);
        Check.due("the last is at 12: the others as they stand first", 12, clock.visits(7, 2));
        rowOfVisits(clock, 2, 3, 12);
        ClockLodgers narrow = Check.clock("tenant 0 both 1 1;".repeat(2));
        narrow.lease(0, 0, 4, 6);
        narrow.lease(1, 1, 4, 4);
        Check.due("the first gives way where he must", 5, narrow.visits(3, 0));
        rowOfVisits(narrow, 5, 4);
    }

    private static void visitsAnswers() {
        itCantBe();
        wrongBits();
        whenVisited();
    }

    private static void itCantBe() {
        Check.sentence("VISITS: the last HOUR; it is kept; NONE: it can't be.");
        ClockLodgers clock = Check.clock("tenant 0 both 1 1;".repeat(2));
        Check.due("nobody is in", -1, clock.visits(1, 0));
        Check.noSuch("none are kept", () -> clock.visit(0));
        clock.lease(0, 0, 7, 7);
        Check.due("visits(1, 0)", 7, clock.visits(1, 0));
        Check.due("it can't be", -1, clock.visits(3, 0));
        rowOfVisits(clock, 7, -1);
        Check.illegal("a wrong call", () -> clock.visits(4, 0));
        clock.undo();
        rowOfVisits(clock, 7, -1);
        Check.due("undone, it can't be", -1, clock.visits(1, 0));
        rowOfVisits(clock, 7, -1);
    }

    private static void wrongBits() {
        Check.sentence("IllegalArgumentException (behind NoSuchElementException): bits of TENANTS that there aren't, none.");
        for (int tenants = 0; tenants <= 6; tenants++) {
            ClockLodgers clock = Check.clock("tenant 0 both 1 1;".repeat(tenants));
            int next = 1 << tenants;
            for (int bits : new int[] {0, -1, next, next + 1, 64, 1 << 30, LEAST, MOST}) {
                boolean fine = bits > 0 && bits < next;
                if (!fine) {
                    Check.illegal("visits(" + bits + ", 0) of " + tenants, () -> clock.visits(bits, 0));
                    Check.illegal("visits(" + bits + ", 23) of " + tenants, () -> clock.visits(bits, 23));
                    Check.noSuch("visits(" + bits + ", 24) of " + tenants, () -> clock.visits(bits, 24));
                    Check.noSuch("visits(" + bits + ", -1) of " + tenants, () -> clock.visits(bits, -1));
                }
            }
            if (tenants > 0) {
                Check.due("all of " + tenants, -1, clock.visits(next - 1, 0));
            }
        }
    }

    private static void whenVisited() {
        Check.sentence("NONE: he isn't. NoSuchElementException: also none are kept.");
        ClockLodgers clock = Check.clock("tenant 0 both 1 1;".repeat(2));
        Check.noSuch("none are kept", () -> clock.visit(0));
        Check.noSuch("no such TENANT, none are kept", () -> clock.visit(2));
        clock.lease(1, 0, 23, 23);
        clock.visits(2, 0);
        rowOfVisits(clock, -1, 23);
        for (int tenant : new int[] {-1, 2, 6, LEAST, MOST}) {
            Check.noSuch("visit(" + tenant + ")", () -> clock.visit(tenant));
        }
        clock.lease(0, 0, 0, 0);
        clock.visits(1, 0);
        rowOfVisits(clock, 0, -1);
        Check.due("a new house", 0, Check.read(clock, "tenant 0 both 1 1;"));
        Check.noSuch("none are kept any more", () -> clock.visit(0));
    }
}
