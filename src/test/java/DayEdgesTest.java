/** The edges that the document names in its part 4 and in promises 19 to 28: a test for each sentence. */
public final class DayEdgesTest {
    private static final int LEAST = Integer.MIN_VALUE;
    private static final int MOST = Integer.MAX_VALUE;
    private static final String THREE = "tenant 1 left 1 1;tenant 1 right 1 1;tenant 1 both 1 1;";

    public static void main(String[] args) {
        rents();
        shares();
        offers();
        sublets();
        weddings();
        birthdays();
        twoClocks();
        winds();
        status();
        images();
        Check.end();
    }

    private static void rents() {
        rentByHours();
        cutUp();
    }

    private static void rentByHours() {
        Check.sentence("RENT by his HOURS in halves");
        ClockLodgers clock = Check.clock("tenant 1 both 1 99;tenant 1 both 1 0;tenant 1 both 1 1;");
        Check.due("no LEASE", 0, clock.rent(0));
        clock.lease(0, 0, 23, 23);
        Check.due("one HOUR", 99, clock.rent(0));
        clock.lease(0, 1, 0, 22);
        Check.due("24 HOURS in two halves", 2376, clock.rent(0));
        clock.lease(1, 0, 0, 22);
        Check.due("a RENT of 0", 0, clock.rent(1));
        clock.undo();
        clock.undo();
        Check.due("undone", 99, clock.rent(0));
        for (int tenant : new int[] {-1, 3, LEAST, MOST}) {
            Check.noSuch("rent(" + tenant + ")", () -> clock.rent(tenant));
        }
    }

    private static void cutUp() {
        Check.sentence("and half of RENT by his HOURS in pauses, cut up");
        int[] rents = {0, 1, 2, 7, 99};
        for (int rent : rents) {
            for (int hours = 1; hours <= 24; hours++) {
                ClockLodgers clock = pauses("tenant 1 both 1 " + rent + ";");
                clock.lease(2, 2, 0, hours - 1);
                int product = rent * hours;
                Check.due("RENT " + rent + " by " + hours, product / 2 + product % 2, clock.rent(2));
            }
        }
        ClockLodgers parts = pauses("tenant 1 both 1 1;");
        parts.lease(2, 2, 0, 0);
        Check.due("one HOUR", 1, parts.rent(2));
        parts.lease(2, 2, 2, 2);
        Check.due("two of them are cut up together", 1, parts.rent(2));
        parts.lease(2, 2, 4, 4);
        Check.due("three of them", 2, parts.rent(2));
    }

    /** Both halves are let for the whole DAY, to TENANTS who pay nothing. */
    private static ClockLodgers pauses(String more) {
        ClockLodgers clock = Check.clock("tenant 1 left 1 0;tenant 1 right 1 0;" + more);
        clock.lease(0, 0, 0, 23);
        clock.lease(1, 1, 0, 23);
        return clock;
    }

    private static void shares() {
        cutDown();
        oneByOne();
        leastTenantFirst();
        allRentsZero();
        sumFromZero();
    }

    /** TENANTS with so many HOURS each, of a RENT of 1. */
    private static ClockLodgers rented(int... hours) {
        ClockLodgers clock = Check.clock("tenant 1 both 1 1;".repeat(hours.length));
        int[] next = {0, 0};
        for (int tenant = 0; tenant < hours.length; tenant++) {
            int half = next[0] + hours[tenant] <= 24 ? 0 : 1;
            if (hours[tenant] > 0) {
                Check.due("a LEASE", 0, clock.lease(tenant, half, next[half], next[half] + hours[tenant] - 1));
                next[half] += hours[tenant];
            }
        }
        return clock;
    }

    private static void rowOfShares(ClockLodgers clock, int sum, int... shares) {
        for (int tenant = 0; tenant < shares.length; tenant++) {
            Check.due("shared(" + tenant + ", " + sum + ")", shares[tenant], clock.shared(tenant, sum));
        }
    }

    private static void cutDown() {
        Check.sentence("each has SUM by his RENT, by all RENTS, cut down");
        rowOfShares(rented(1, 3), 4, 1, 3);
        rowOfShares(rented(1, 3), 8, 2, 6);
        rowOfShares(rented(1, 3), 9999, 2500, 7499);
        rowOfShares(rented(0, 24), 9999, 0, 9999);
        ClockLodgers dear = Check.clock("tenant 1 left 1 99;tenant 1 right 1 99;tenant 1 both 1 99;");
        dear.lease(0, 0, 0, 23);
        dear.lease(1, 1, 0, 23);
        dear.lease(2, 2, 0, 23);
        // RENTS 2376, 2376 and 1188: 3999.6, 3999.6 and 1999.8; two are left
        rowOfShares(dear, 9999, 4000, 3999, 2000);
    }

    private static void oneByOne() {
        Check.sentence("what is left is given out one by one, by the greatest remainders");
        // of 7: 7/8, 7/8, 7/8 and 35/8
        rowOfShares(rented(1, 1, 1, 5), 7, 1, 1, 1, 4);
        // of 2: 2/8, 2/8, 2/8 and 10/8; the one that is left goes to the first of three like ones
        rowOfShares(rented(1, 1, 1, 5), 2, 1, 0, 0, 1);
        // of 1: 1/9, 3/9 and 5/9
        rowOfShares(rented(1, 3, 5), 1, 0, 0, 1);
        // of 2: 2/9, 6/9 and 10/9
        rowOfShares(rented(1, 3, 5), 2, 0, 1, 1);
        ClockLodgers clock = rented(5, 0, 7, 11, 2, 9);
        for (int sum = 0; sum <= 9999; sum += sum < 100 ? 1 : 99) {
            int all = 0;
            for (int tenant = 0; tenant < 6; tenant++) {
                all += clock.shared(tenant, sum);
            }
            Check.due("all parts of " + sum, sum, all);
            Check.due("a RENT of 0 of " + sum, 0, clock.shared(1, sum));
        }
    }

    private static void leastTenantFirst() {
        Check.sentence("of like ones the least TENANT first");
        ClockLodgers six = rented(2, 2, 2, 2, 2, 2);
        for (int sum = 0; sum <= 12; sum++) {
            for (int tenant = 0; tenant < 6; tenant++) {
                Check.due("shared(" + tenant + ", " + sum + ")", sum / 6 + (tenant < sum % 6 ? 1 : 0), six.shared(tenant, sum));
            }
        }
        rowOfShares(rented(0, 1, 1), 1, 0, 1, 0);
    }

    private static void allRentsZero() {
        Check.sentence("(none, if all RENTS are 0)");
        rowOfShares(rented(0, 0), 9999, 0, 0);
        ClockLodgers free = pauses("");
        rowOfShares(free, 9999, 0, 0);
        rowOfShares(free, 0, 0, 0);
        ClockLodgers one = pauses("tenant 1 both 1 1;");
        one.lease(2, 2, 0, 0);
        rowOfShares(one, 9999, 0, 0, 9999);
    }

    private static void sumFromZero() {
        Check.sentence("IllegalArgumentException (behind NoSuchElementException): it is not 0 to 9999.");
        ClockLodgers clock = rented(1);
        Check.due("a SUM of 0", 0, clock.shared(0, 0));
        Check.due("a SUM of 9999", 9999, clock.shared(0, 9999));
        for (int sum : new int[] {-1, 10000, LEAST, MOST}) {
            Check.illegal("shared(0, " + sum + ")", () -> clock.shared(0, sum));
            Check.noSuch("shared(1, " + sum + ")", () -> clock.shared(1, sum));
            Check.noSuch("shared(-1, " + sum + ")", () -> clock.shared(-1, sum));
            Check.illegal("shared(0, " + sum + ") without RENTS", () -> rented(0).shared(0, sum));
        }
    }

    private static void offers() {
        atMostEight();
        coins();
        offersRefused();
    }

    private static void atMostEight() {
        Check.sentence("OFFERS (at most 8)");
        ClockLodgers clock = Check.clock(THREE);
        for (int offer = 1; offer <= 8; offer++) {
            Check.due("OFFER " + offer, offer, clock.offer(0, 23, 99));
        }
        Check.due("the 9th", -1, clock.offer(0, 23, 99));
        Check.due("OFFERS", 8, clock.count(8));
        Check.due("no TENANTS are needed", 1, new ClockLodgers().offer(0, 0, 0));
    }

    private static void coins() {
        Check.sentence("FROM an HOUR TO another one, COINS (0 to 99)");
        ClockLodgers clock = Check.clock(THREE);
        Check.due("COINS 0", 1, clock.offer(0, 0, 0));
        Check.due("COINS 99", 2, clock.offer(23, 23, 99));
        for (int wrong : new int[] {-1, 100, LEAST, MOST}) {
            Check.due("COINS " + wrong, -1, clock.offer(0, 0, wrong));
        }
        Check.due("TO just below FROM", -1, clock.offer(1, 0, 1));
        Check.due("TO far below FROM", -1, clock.offer(23, 0, 1));
        Check.due("TO is FROM", 3, clock.offer(5, 5, 1));
        Check.due("the whole DAY", 4, clock.offer(0, 23, 1));
        for (int hour : new int[] {-1, 24, LEAST, MOST}) {
            Check.due("FROM " + hour, -1, clock.offer(hour, 23, 1));
            Check.due("TO " + hour, -1, clock.offer(0, hour, 1));
            Check.due("FROM and TO " + hour, -1, clock.offer(hour, hour, 1));
        }
        Check.due("OFFERS", 4, clock.count(8));
    }

    private static void offersRefused() {
        Check.sentence("An OFFER: how many there are. NONE (STATUS 2): there are 8, HOURS, COINS are not as told.");
        ClockLodgers clock = Check.clock(THREE);
        Check.due("the first", 1, clock.offer(0, 0, 1));
        Check.due("refused", -1, clock.offer(0, 24, 1));
        Check.due("STATUS 2", 1, clock.count(12));
        Check.due("the second", 2, clock.offer(0, 0, 1));
        Check.due("COINS", -1, clock.offer(0, 0, 100));
        Check.due("all at once counts once", -1, clock.offer(-1, -2, -1));
        Check.due("STATUS 2", 3, clock.count(12));
        for (int offer = 3; offer <= 8; offer++) {
            clock.offer(0, 0, 1);
        }
        Check.due("what is granted isn't counted", 3, clock.count(12));
        Check.due("there are 8", -1, clock.offer(0, 0, 1));
        Check.due("there are 8, and HOURS", -1, clock.offer(5, 4, 1));
        Check.due("STATUS 2", 5, clock.count(12));
        Check.due("others aren't counted", 0, clock.count(10) + clock.count(11));
    }

    private static void sublets() {
        noTwoShareAnHour();
        whileBothAreLet();
        theMostCoins();
        leastAsBits();
        whatOfSublets();
    }

    private static void best(ClockLodgers clock, int coins, int bits) {
        Check.due("sublet(0)", coins, clock.sublet(0));
        Check.due("sublet(1)", bits, clock.sublet(1));
    }

    private static void noTwoShareAnHour() {
        Check.sentence("no two that share an HOUR");
        ClockLodgers clock = pauses("");
        clock.offer(0, 4, 10);
        clock.offer(5, 9, 20);
        best(clock, 30, 3);
        clock.offer(9, 23, 19);
        best(clock, 30, 3);
        clock.offer(10, 23, 18);
        best(clock, 48, 11);
        clock.offer(0, 23, 49);
        best(clock, 49, 16);
        ClockLodgers full = pauses("");
        for (int offer = 0; offer < 8; offer++) {
            full.offer(3 * offer, 3 * offer + 2, 99);
        }
        best(full, 792, 255);
        ClockLodgers same = pauses("");
        for (int offer = 0; offer < 8; offer++) {
            same.offer(7, 7, 10 + offer);
        }
        best(same, 17, 128);
    }

    private static void whileBothAreLet() {
        Check.sentence("each while both halves are let and the pause isn't, in all its HOURS");
        ClockLodgers clock = Check.clock(THREE);
        clock.offer(5, 8, 50);
        best(clock, 0, 0);
        clock.lease(0, 0, 5, 8);
        best(clock, 0, 0);
        clock.lease(1, 1, 5, 7);
        best(clock, 0, 0);
        clock.lease(1, 1, 8, 8);
        best(clock, 50, 1);
        clock.lease(2, 2, 5, 5);
        best(clock, 0, 0);
        clock.undo();
        clock.lease(2, 2, 8, 8);
        best(clock, 0, 0);
        clock.undo();
        best(clock, 50, 1);
        clock.offer(4, 8, 60);
        clock.offer(5, 9, 70);
        clock.offer(0, 23, 80);
        best(clock, 50, 1);
        ClockLodgers right = Check.clock(THREE);
        right.offer(5, 8, 50);
        right.lease(1, 1, 5, 8);
        best(right, 0, 0);
        right.lease(0, 0, 6, 8);
        best(right, 0, 0);
    }

    private static void theMostCoins() {
        Check.sentence("the most COINS");
        ClockLodgers clock = pauses("");
        best(clock, 0, 0);
        clock.offer(0, 5, 3);
        clock.offer(0, 2, 2);
        best(clock, 3, 1);
        clock.offer(3, 5, 2);
        best(clock, 4, 6);
        ClockLodgers free = pauses("");
        free.offer(0, 0, 0);
        free.offer(1, 1, 0);
        best(free, 0, 0);
        free.offer(2, 2, 1);
        best(free, 1, 4);
    }

    private static void leastAsBits() {
        Check.sentence("of like ones the least as bits");
        ClockLodgers alike = pauses("");
        alike.offer(0, 5, 4);
        alike.offer(5, 9, 4);
        best(alike, 4, 1);
        ClockLodgers two = pauses("");
        two.offer(0, 2, 2);
        two.offer(3, 5, 2);
        two.offer(0, 5, 4);
        best(two, 4, 3);
        ClockLodgers one = pauses("");
        one.offer(0, 5, 4);
        one.offer(0, 2, 2);
        one.offer(3, 5, 2);
        best(one, 4, 1);
        ClockLodgers zero = pauses("");
        zero.offer(0, 0, 0);
        zero.offer(1, 1, 9);
        best(zero, 9, 2);
    }

    private static void whatOfSublets() {
        Check.sentence("the COINS (what 0), which OFFERS (1: bits). NoSuchElementException: another what.");
        ClockLodgers clock = pauses("");
        for (int what : new int[] {-1, 2, LEAST, MOST}) {
            Check.noSuch("sublet(" + what + ")", () -> clock.sublet(what));
        }
        best(new ClockLodgers(), 0, 0);
    }

    private static void weddings() {
        firstSunday();
        fromADayOn();
        inSomeHour();
        noWedding();
    }

    private static void firstSunday() {
        Check.sentence("the first SUNDAY (DAY MOD 7 is 6)");
        ClockLodgers clock = Check.clock("base 60;stop 41;");
        for (int day = 0; day <= 28; day++) {
            int want = day;
            while (want % 7 != 6) {
                want++;
            }
            Check.due("wedding(" + day + ")", want, clock.wedding(day));
        }
    }

    private static void fromADayOn() {
        Check.sentence("from a DAY on (up to 9999)");
        ClockLodgers clock = Check.clock("base 60;stop 41;");
        Check.due("the last but one", 9988, clock.wedding(9982));
        Check.due("the last", 9995, clock.wedding(9989));
        Check.due("on the last", 9995, clock.wedding(9995));
        Check.due("behind the last", -1, clock.wedding(9996));
        Check.due("on the last DAY", -1, clock.wedding(9999));
        for (int day : new int[] {-1, 10000, LEAST, MOST}) {
            Check.illegal("wedding(" + day + ")", () -> clock.wedding(day));
        }
    }

    private static void inSomeHour() {
        Check.sentence("on which THE CLOCK STOPS in some HOUR");
        for (int hour = 0; hour <= 23; hour++) {
            ClockLodgers clock = Check.clock("stop 61;tenant 1 left 1 1;tenant 2 left 1 1;");
            clock.lease(0, 0, hour, hour);
            Check.due("at STOP in HOUR " + hour, -1, clock.wedding(0));
            clock.undo();
            clock.lease(1, 0, hour, hour);
            Check.due("above STOP in HOUR " + hour, 6, clock.wedding(0));
        }
    }

    private static void noWedding() {
        Check.sentence("A WEDDING; NONE: none.");
        Check.due("a new object", -1, new ClockLodgers().wedding(0));
        Check.due("never above STOP", -1, Check.clock("base 60;stop 120;").wedding(0));
        Check.due("always above STOP", 6, Check.clock("base 60;stop 119;").wedding(0));
        // 119 at most as long as any OIL is left, 120 from DAY 2970 on
        ClockLodgers late = Check.clock("base 60;oil 30 99;stop 119;");
        Check.due("as the last part of OIL is gone", 2974, late.wedding(0));
        Check.due("from just ahead of it", 2974, late.wedding(2968));
        Check.due("from it on", 2974, late.wedding(2974));
        Check.due("behind it", 2981, late.wedding(2975));
        // 120 less 1 on DAY 6 of OIL by 7 DAYS, and 120 from DAY 7 on
        ClockLodgers sunday = Check.clock("base 60;oil 1 7;stop 119;");
        Check.due("OIL lasts to the first SUNDAY", 13, sunday.wedding(0));
        ClockLodgers saturday = Check.clock("base 60;oil 1 6;stop 119;");
        Check.due("OIL lasts to the day ahead of it", 6, saturday.wedding(0));
    }

    private static void birthdays() {
        lost();
        gained();
        upToTheLastDay();
        noBirthday();
    }

    private static void lost() {
        Check.sentence("how many DAYS until SLOW of them all together is 1440 or more (lost)");
        Check.due("1440 in one DAY", 1, Check.clock("base 60;").birthday(0));
        Check.due("1392 in one DAY", 2, Check.clock("base 59;").birthday(0));
        Check.due("48 a DAY", 30, Check.clock("base 31;").birthday(0));
        for (int slow = 1; slow <= 20; slow++) {
            ClockLodgers clock = Check.clock("tenant " + slow + " left 1 1;");
            clock.lease(0, 0, 5, 5);
            Check.due(slow + " a DAY", (1440 + slow - 1) / slow, clock.birthday(0));
            Check.due(slow + " a DAY from DAY 100", (1440 + slow - 1) / slow, clock.birthday(100));
        }
        // 24 more each DAY: 0, 24, 48 .. 696 and 720 from DAY 30 on; 1320 by DAY 10, 1584 by DAY 11
        Check.due("slower each DAY", 12, Check.clock("base 45;oil 30 1;").birthday(0));
        Check.due("slower each DAY from DAY 1", 11, Check.clock("base 45;oil 30 1;").birthday(1));
    }

    private static void gained() {
        Check.sentence("or -1440 or less (gained)");
        Check.due("480 a DAY", -3, Check.clock("base 20;").birthday(0));
        Check.due("1200 on DAY 0, 1176 on DAY 1", -2, Check.clock("base 20;oil 30 1;").birthday(0));
        Check.due("48 a DAY", -30, Check.clock("base 29;").birthday(0));
        for (int fast = 1; fast <= 8; fast++) {
            ClockLodgers clock = Check.clock("base 29;tenant 20 left 1 1;tenant " + (8 - fast) + " left 1 1;");
            clock.lease(0, 0, 0, 1);
            clock.lease(1, 0, 2, 2);
            Check.due(fast + " a DAY", -((1440 + fast - 1) / fast), clock.birthday(0));
        }
    }

    private static void upToTheLastDay() {
        Check.sentence("none, if it isn't so up to DAY 9999");
        ClockLodgers slow = Check.clock("base 31;");
        Check.due("on DAY 9999 just so", 30, slow.birthday(9970));
        Check.due("a DAY too late", 0, slow.birthday(9971));
        ClockLodgers fast = Check.clock("base 20;");
        Check.due("gained on DAY 9999 just so", -3, fast.birthday(9997));
        Check.due("a DAY too late", 0, fast.birthday(9998));
        Check.due("one DAY is enough", 1, Check.clock("base 60;").birthday(9999));
        Check.due("one DAY isn't enough", 0, Check.clock("base 59;").birthday(9999));
        ClockLodgers one = Check.clock("tenant 1 left 1 1;");
        one.lease(0, 0, 0, 0);
        Check.due("1 a DAY up to DAY 9999", 1440, one.birthday(8560));
        Check.due("1439 up to DAY 9999", 0, one.birthday(8561));
    }

    private static void noBirthday() {
        Check.sentence("A BIRTHDAY: how many DAYS, below 0 if it is gained; 0: none.");
        Check.due("a right clock", 0, new ClockLodgers().birthday(0));
        for (int day : new int[] {-1, 10000, LEAST, MOST}) {
            Check.illegal("birthday(" + day + ")", () -> new ClockLodgers().birthday(day));
        }
        // 24 less on each of 59 DAYS, and right from there on
        Check.due("gained just not", 0, Check.clock("oil 1 59;").birthday(0));
        Check.due("gained just so", -60, Check.clock("oil 1 60;").birthday(0));
        Check.due("gained just not from DAY 1", 0, Check.clock("oil 1 60;").birthday(1));
        // 24 below 0 on each of 50 DAYS, then 0, then 24, then 48 above it: 1200 to win back first
        Check.due("gained first, then lost", 180, Check.clock("base 31;oil 3 50;").birthday(0));
    }

    private static void twoClocks() {
        baseThere();
        kOfHisStay();
        leastK();
        whatOfBoth();
    }

    private static void baseThere() {
        Check.sentence("SHARED with another clock of a BASE (20 to 60), where nobody else lives, no OIL");
        ClockLodgers clock = Check.clock("oil 30 99;tenant 20 both 12 1;");
        for (int base = 20; base <= 60; base++) {
            int least = -1;
            int best = 0;
            for (int k = 0; k <= 12; k++) {
                int here = Math.abs(-720 + 20 * k);
                int there = Math.abs(48 * (base - 30) + 20 * (12 - k));
                int far = Math.max(here, there);
                if (least < 0 || far < least) {
                    least = far;
                    best = k;
                }
            }
            Check.due("both(0, " + base + ", 0, 0)", best, clock.both(0, base, 0, 0));
            Check.due("both(0, " + base + ", 0, 1)", least, clock.both(0, base, 0, 1));
        }
        for (int base : new int[] {19, 61, -1, LEAST, MOST}) {
            Check.illegal("both(0, " + base + ", 0, 0)", () -> clock.both(0, base, 0, 0));
            Check.illegal("both(0, " + base + ", -1, 1)", () -> clock.both(0, base, -1, 1));
        }
    }

    private static void kOfHisStay() {
        Check.sentence("a TENANT is here in k of his STAY (0 to all) HOURS more than his LEASES, else there");
        for (int stay = 1; stay <= 12; stay++) {
            ClockLodgers clock = Check.clock("tenant 10 left " + stay + " 1;tenant 20 right 1 1;");
            Check.due("all of " + stay + " there", 0, clock.both(0, 20, 0, 0));
            Check.due("as far as", 480 - 10 * stay, clock.both(0, 20, 0, 1));
            Check.due("all of " + stay + " here", stay, clock.both(0, 60, 0, 0));
            Check.due("as far as", 1440, clock.both(0, 60, 0, 1));
            clock.lease(0, 0, 0, 23);
            Check.due("all there, his LEASES are here", 0, clock.both(0, 30, 0, 0));
            Check.due("as far as", 240, clock.both(0, 30, 0, 1));
        }
    }

    private static void leastK() {
        Check.sentence("of like ones the least k");
        ClockLodgers clock = Check.clock("tenant 10 left 3 1;tenant 0 left 12 1;tenant 10 left 1 1;");
        Check.due("1 or 2 of 3", 1, clock.both(0, 30, 0, 0));
        Check.due("as far as", 20, clock.both(0, 30, 0, 1));
        Check.due("no WEIGHT", 0, clock.both(1, 30, 0, 0));
        Check.due("as far as", 0, clock.both(1, 30, 0, 1));
        Check.due("0 or 1 of 1", 0, clock.both(2, 30, 0, 0));
        Check.due("as far as", 10, clock.both(2, 30, 0, 1));
        clock.lease(0, 0, 0, 23);
        Check.due("240 here by LEASES, whatever there", 0, clock.both(2, 30, 0, 0));
    }

    private static void whatOfBoth() {
        Check.sentence("k (what 0), the greater of both (1). NoSuchElementException: also another what. "
                + "IllegalArgumentException: also the BASE.");
        ClockLodgers clock = Check.clock("tenant 10 left 3 1;");
        for (int what : new int[] {-1, 2, LEAST, MOST}) {
            Check.noSuch("both(0, 30, 0, " + what + ")", () -> clock.both(0, 30, 0, what));
            Check.noSuch("both(0, 19, 0, " + what + ")", () -> clock.both(0, 19, 0, what));
            Check.noSuch("both(0, 30, 10000, " + what + ")", () -> clock.both(0, 30, 10000, what));
        }
        Check.noSuch("both(1, 19, -1, 0)", () -> clock.both(1, 19, -1, 0));
        Check.noSuch("both(-1, 61, 0, 1)", () -> clock.both(-1, 61, 0, 1));
        Check.illegal("both(0, 30, 10000, 0)", () -> clock.both(0, 30, 10000, 0));
        Check.illegal("both(0, 30, -1, 1)", () -> clock.both(0, 30, -1, 1));
        Check.due("both(0, 20, 9999, 1)", 450, clock.both(0, 20, 9999, 1));
    }

    private static void winds() {
        belowAChance();
        notTwoAtLeast();
        seedsThatWrap();
        windyDays();
    }

    /** How many of the first draws are below a chance, by numbers that don't wrap. */
    private static int gusts(int seed, int draws, int chance) {
        long all = 1L << 32;
        long number = ((long) seed + all) % all;
        int below = 0;
        for (int i = 0; i < draws; i++) {
            number = (number * 1103515245L % all + 12345) % all;
            below += number / 65536 % 32768 % 100 < chance ? 1 : 0;
        }
        return below;
    }

    private static void belowAChance() {
        Check.sentence("if it is below a CHANCE (0 to 100) the SWING is 5 less in it");
        ClockLodgers clock = new ClockLodgers();
        for (int chance = 0; chance <= 100; chance++) {
            Check.due("wind(1, 40, " + chance + ")", -5 * gusts(1, 960, chance), clock.wind(1, 40, chance));
        }
        Check.due("never", 0, clock.wind(1, 40, 0));
        Check.due("always", -4800, clock.wind(1, 40, 100));
        for (int chance : new int[] {-1, 101, LEAST, MOST}) {
            Check.illegal("wind(1, 1, " + chance + ")", () -> clock.wind(1, 1, chance));
            Check.illegal("wind(1, 0, " + chance + ")", () -> clock.wind(1, 0, chance));
        }
    }

    private static void notTwoAtLeast() {
        Check.sentence("(as it comes; not 2 at least): SLOW of all these DAYS");
        ClockLodgers clock = Check.clock("base 20;oil 30 99;");
        Check.due("10 less 5 less 60 in each HOUR", 24 * -55, clock.wind(1, 1, 100));
        Check.due("10 less 60 in each HOUR", 24 * -50, clock.wind(1, 1, 0));
    }

    private static void seedsThatWrap() {
        Check.sentence("A seed becomes itself times 1103515245 and 12345 (an int that wraps); a DRAW of n is its bits 16 to 30 MOD n then.");
        ClockLodgers clock = new ClockLodgers();
        for (int seed : new int[] {0, 1, -1, 2, 65535, 65536, -65536, 1 << 30, MOST, LEAST, MOST - 1, LEAST + 1, 123456789}) {
            for (int chance : new int[] {1, 33, 50, 99}) {
                int want = -5 * gusts(seed, 24, chance);
                Check.due("wind(" + seed + ", 1, " + chance + ")", want, clock.wind(seed, 1, chance));
            }
        }
        Check.due("the same seed again", clock.wind(5, 3, 50), clock.wind(5, 3, 50));
    }

    private static void windyDays() {
        Check.sentence("WIND: SLOW of so many DAYS (0 to 40). IllegalArgumentException: DAYS, CHANCE.");
        ClockLodgers clock = Check.clock("oil 30 1;");
        int slow = 0;
        for (int days = 0; days <= 40; days++) {
            Check.due("wind(7, " + days + ", 0)", slow, clock.wind(7, days, 0));
            Check.due("wind(7, " + days + ", 30)", slow - 5 * gusts(7, 24 * days, 30), clock.wind(7, days, 30));
            slow -= 24 * Math.max(0, 30 - days);
        }
        for (int days : new int[] {-1, 41, LEAST, MOST}) {
            Check.illegal("wind(7, " + days + ", 0)", () -> clock.wind(7, days, 0));
            Check.illegal("wind(7, " + days + ", 101)", () -> clock.wind(7, days, 101));
        }
    }

    private static void status() {
        Check.sentence("STATUS: how many calls were refused: 0 of TEXTS with a FAULT, 1 LEASES, 2 OFFERS.");
        ClockLodgers clock = Check.clock(THREE);
        Check.read(clock, "?");
        Check.illegal("a house that throws", () -> clock.house(1));
        clock.lease(9, 9, 9, 9);
        clock.judge(9, 9, 9, 9);
        clock.offer(0, 24, 0);
        clock.undo();
        clock.house4(1, 0);
        clock.visits(1, 0);
        clock.restore();
        Check.noSuch("in(9, 9)", () -> clock.in(9, 9));
        Check.illegal("visits(64, 0)", () -> clock.visits(64, 0));
        for (int what = 10; what <= 12; what++) {
            Check.due("count(" + what + ")", 1, clock.count(what));
        }
        clock.image();
        clock.lease(9, 9, 9, 9);
        clock.restore();
        Check.due("STATUS 1 isn't restored", 2, clock.count(11));
    }

    private static void images() {
        inPlaceOfAnother();
        asTheImageAgain();
        asTheImageElsewhere();
        noImage();
    }

    private static void inPlaceOfAnother() {
        Check.sentence("LEASES and OFFERS are kept as an image, in place of another one.");
        ClockLodgers clock = Check.clock(THREE);
        clock.image();
        clock.lease(0, 0, 0, 0);
        clock.offer(0, 0, 1);
        clock.image();
        clock.lease(0, 0, 1, 1);
        clock.offer(0, 0, 1);
        Check.due("restore()", true, clock.restore());
        Check.due("LEASES", 1, clock.count(7));
        Check.due("OFFERS", 1, clock.count(8));
        clock.undo();
        clock.image();
        clock.lease(0, 0, 5, 5);
        Check.due("restore()", true, clock.restore());
        Check.due("no LEASES", 0, clock.count(7));
        Check.due("nobody", -1, clock.in(0, 5));
    }

    private static void asTheImageAgain() {
        Check.sentence("They are as the image again: true.");
        ClockLodgers clock = pauses("tenant 3 both 1 1;");
        for (int hour = 0; hour < 10; hour++) {
            Check.due("a LEASE", 0, clock.lease(2, 2, hour, hour));
        }
        for (int offer = 0; offer < 8; offer++) {
            clock.offer(10 + offer, 10 + offer, offer);
        }
        clock.image();
        for (int round = 0; round < 2; round++) {
            for (int lease = 11; lease >= 0; lease--) {
                Check.due("undo()", lease, clock.undo());
            }
            Check.due("another in his place", 0, clock.lease(2, 0, 3, 23));
            Check.due("restore()", true, clock.restore());
            Check.due("12 LEASES", 12, clock.count(7));
            Check.due("8 OFFERS", 8, clock.count(8));
            for (int hour = 0; hour <= 23; hour++) {
                Check.due("in(0, " + hour + ")", 0, clock.in(0, hour));
                Check.due("in(1, " + hour + ")", 1, clock.in(1, hour));
                Check.due("in(2, " + hour + ")", hour < 10 ? 2 : -1, clock.in(2, hour));
            }
            best(clock, 28, 254);
            Check.due("full again", -1, clock.offer(0, 0, 0));
            Check.due("full again", 7, clock.judge(2, 2, 23, 23));
        }
        Check.due("the last LEASE of the image is undone first", 11, clock.undo());
        Check.due("in(2, 9)", -1, clock.in(2, 9));
        Check.due("in(2, 8)", 2, clock.in(2, 8));
    }

    private static void asTheImageElsewhere() {
        Check.sentence("They are as the image again");
        ClockLodgers moved = Check.clock(THREE);
        moved.lease(0, 0, 3, 5);
        moved.lease(1, 1, 4, 6);
        moved.image();
        moved.undo();
        moved.undo();
        moved.lease(2, 1, 20, 23);
        moved.lease(2, 0, 0, 1);
        Check.due("restore()", true, moved.restore());
        int[] hours = {3, 3, 0};
        for (int tenant = 0; tenant < 3; tenant++) {
            Check.due("tenant(" + tenant + ", 4)", hours[tenant], moved.tenant(tenant, 4));
            Check.due("rent(" + tenant + ")", hours[tenant], moved.rent(tenant));
        }
        Check.due("a pause where both are let", 0, moved.judge(2, 2, 4, 5));
        Check.due("a pause where one is let", 5, moved.judge(2, 2, 4, 6));
        Check.due("undo()", 1, moved.undo());
        Check.due("the right is free", -1, moved.in(1, 4));
        Check.due("the right is free", -1, moved.in(1, 6));
        Check.due("the left isn't", 0, moved.in(0, 3));
        Check.due("undo()", 0, moved.undo());
        Check.due("the left is free", -1, moved.in(0, 3));
        Check.due("the left is free", -1, moved.in(0, 5));
    }

    private static void noImage() {
        Check.sentence("False: there is none.");
        ClockLodgers clock = new ClockLodgers();
        Check.due("a new object", false, clock.restore());
        Check.due("a house", 0, Check.read(clock, THREE));
        clock.lease(0, 0, 0, 0);
        clock.offer(0, 0, 0);
        Check.due("none", false, clock.restore());
        Check.due("LEASES stay", 1, clock.count(7));
        Check.due("OFFERS stay", 1, clock.count(8));
        clock.image();
        Check.due("a FAULT", 1, Check.read(clock, "?"));
        Check.due("it is still there", true, clock.restore());
        Check.due("a house anew", 0, Check.read(clock, THREE));
        Check.due("it is gone", false, clock.restore());
        Check.due("no LEASES", 0, clock.count(7));
        clock.image();
        Check.due("an empty image is one", true, clock.restore());
    }
}
