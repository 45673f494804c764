/** Promises 11 to 13 and 23 to 26: swings, slowness, by whom, weddings, birthdays, two clocks, wind. */
public final class SwingTest {
    private static final String HOUSE = "base 30;oil 4 2;tenant 5 left 6 10;tenant 8 right 5 7;tenant 3 both 4 9;"
            + "tenant 12 both 3 0;quarrel 0 1;quarrel 1 2;";

    public static void main(String[] args) {
        swings();
        slowness();
        byWhom();
        weddings();
        birthdays();
        twoClocks();
        winds();
        Check.end();
    }

    private static ClockLodgers leased() {
        ClockLodgers clock = Check.clock(HOUSE);
        clock.lease(0, 0, 8, 11);
        clock.lease(1, 1, 9, 12);
        clock.lease(2, 2, 9, 10);
        return clock;
    }

    private static void swings() {
        ClockLodgers clock = leased();
        Check.due("an empty hour", 56, clock.swing(0, 0));
        Check.due("one is in", 61, clock.swing(8, 0));
        Check.due("three with two quarrels", 60 + 16 + 6 - 4, clock.swing(9, 0));
        Check.due("two with a quarrel", 60 + 13 + 3 - 4, clock.swing(11, 0));
        Check.due("the oil is whole on day 1", 56, clock.swing(23, 1));
        Check.due("a part is gone on day 2", 57, clock.swing(23, 2));
        Check.due("one is left on day 7", 59, clock.swing(23, 7));
        Check.due("none is left on day 8", 60, clock.swing(23, 8));
        Check.due("the last day", 60, clock.swing(23, 9999));
        Check.due("the least swing", 10, Check.clock("base 20;oil 30 99;").swing(0, 98));
        Check.noSuch("swing(24, 0)", () -> clock.swing(24, 0));
        Check.noSuch("swing(-1, 0)", () -> clock.swing(-1, 0));
        Check.noSuch("swing(24, -1)", () -> clock.swing(24, -1));
        Check.illegal("swing(0, -1)", () -> clock.swing(0, -1));
        Check.illegal("swing(0, 10000)", () -> clock.swing(0, 10000));
    }

    private static void slowness() {
        ClockLodgers clock = leased();
        Check.due("slow(8, 8, 0)", 1, clock.slow(8, 8, 0));
        Check.due("slow(7, 9, 0)", -4 + 1 + 18, clock.slow(7, 9, 0));
        Check.due("slow(0, 23, 8)", 4 * 5 + 4 * 8 + 2 * 3 + 3 * 3 + 2 * 3, clock.slow(0, 23, 8));
        Check.due("slow(0, 23, 0)", 73 - 96, clock.slow(0, 23, 0));
        Check.noSuch("slow(-1, 0, 0)", () -> clock.slow(-1, 0, 0));
        Check.noSuch("slow(0, 24, 0)", () -> clock.slow(0, 24, 0));
        Check.noSuch("slow(25, 24, -1)", () -> clock.slow(25, 24, -1));
        Check.illegal("slow(5, 4, 0)", () -> clock.slow(5, 4, 0));
        Check.illegal("slow(4, 5, 10000)", () -> clock.slow(4, 5, 10000));
        Check.illegal("slow(4, 5, -1)", () -> clock.slow(4, 5, -1));
    }

    private static void byWhom() {
        ClockLodgers clock = leased();
        Check.due("slowBy(0, 0)", 4 * 5 + 3 * 3, clock.slowBy(0, 0));
        Check.due("slowBy(1, 0)", 4 * 8 + 3 * 3 + 2 * 3, clock.slowBy(1, 0));
        Check.due("slowBy(2, 9999)", 2 * 3 + 2 * 3, clock.slowBy(2, 9999));
        Check.due("slowBy(3, 0)", 0, clock.slowBy(3, 0));
        clock.lease(3, 0, 12, 13);
        clock.lease(3, 1, 20, 20);
        Check.due("all his leases count", 36, clock.slowBy(3, 0));
        Check.noSuch("slowBy(4, 0)", () -> clock.slowBy(4, 0));
        Check.noSuch("slowBy(-1, -1)", () -> clock.slowBy(-1, -1));
        Check.illegal("slowBy(0, -1)", () -> clock.slowBy(0, -1));
        Check.illegal("slowBy(0, 10000)", () -> clock.slowBy(0, 10000));
    }

    private static void weddings() {
        ClockLodgers clock = Check.clock("oil 10 7;stop 75;tenant 20 left 1 1;");
        Check.due("nobody is in", -1, clock.wedding(0));
        clock.lease(0, 0, 22, 22);
        // a swing of 75 on Sunday 41 doesn't stop it, one of 76 from day 42 on does
        Check.due("wedding(0)", 48, clock.wedding(0));
        Check.due("wedding(48)", 48, clock.wedding(48));
        Check.due("wedding(49)", 55, clock.wedding(49));
        Check.due("wedding(9995)", 9995, clock.wedding(9995));
        Check.due("wedding(9996)", -1, clock.wedding(9996));
        Check.due("wedding(9999)", -1, clock.wedding(9999));
        Check.illegal("wedding(-1)", () -> clock.wedding(-1));
        Check.illegal("wedding(10000)", () -> clock.wedding(10000));
        ClockLodgers always = Check.clock("base 60;stop 119;");
        Check.due("the first Sunday", 6, always.wedding(0));
        Check.due("just not above", -1, Check.clock("base 60;stop 120;").wedding(0));
        ClockLodgers edges = Check.clock("stop 70;tenant 15 left 1 1;");
        edges.lease(0, 0, 0, 0);
        Check.due("in the first hour", 6, edges.wedding(0));
        edges.undo();
        edges.lease(0, 0, 23, 23);
        Check.due("in the last hour", 6, edges.wedding(0));
        ClockLodgers late = Check.clock("base 36;oil 30 99;stop 71;");
        Check.due("as all oil is gone", 2974, late.wedding(0));
    }

    private static void birthdays() {
        Check.due("a right clock", 0, new ClockLodgers().birthday(0));
        ClockLodgers slow = Check.clock("base 31;");
        Check.due("lost", 30, slow.birthday(0));
        Check.due("lost on the last day", 30, slow.birthday(9970));
        Check.due("not any more", 0, slow.birthday(9971));
        Check.due("not on the last day", 0, slow.birthday(9999));
        Check.illegal("birthday(-1)", () -> slow.birthday(-1));
        Check.illegal("birthday(10000)", () -> slow.birthday(10000));
        ClockLodgers fast = Check.clock("base 29;");
        Check.due("gained", -30, fast.birthday(0));
        Check.due("gained on the last day", -30, fast.birthday(9970));
        Check.due("not gained any more", 0, fast.birthday(9971));
        Check.due("in a day", 1, Check.clock("base 60;").birthday(9999));
        Check.due("gained in three", -3, Check.clock("base 20;").birthday(7));
        ClockLodgers oiled = Check.clock("base 31;oil 2 1;");
        Check.due("0, 24, then 48 a day", 32, oiled.birthday(0));
        Check.due("from day 1", 31, oiled.birthday(1));
        ClockLodgers turning = Check.clock("base 31;oil 3 50;");
        // fifty days of -24 and then fifty of 0, fifty of 24, 48 from there on
        Check.due("fast at first, then slow", 180, turning.birthday(0));
        ClockLodgers both = Check.clock("base 31;oil 4 50;");
        Check.due("fast enough at first", -30, both.birthday(0));
        ClockLodgers one = Check.clock("tenant 1 left 1 1;");
        one.lease(0, 0, 3, 3);
        Check.due("one a day", 1440, one.birthday(0));
        Check.due("one a day to the last", 1440, one.birthday(8560));
        Check.due("one a day too late", 0, one.birthday(8561));
    }

    private static void twoClocks() {
        ClockLodgers clock = Check.clock("tenant 10 left 4 1;tenant 10 left 3 1;tenant 0 left 12 1;");
        Check.due("half of them", 2, clock.both(0, 30, 0, 0));
        Check.due("as far as", 20, clock.both(0, 30, 0, 1));
        Check.due("of like ones the least", 1, clock.both(1, 30, 0, 0));
        Check.due("as far as", 20, clock.both(1, 30, 0, 1));
        Check.due("no weight", 0, clock.both(2, 30, 0, 0));
        Check.due("a fast clock there", 0, clock.both(0, 20, 0, 0));
        Check.due("as far as", 440, clock.both(0, 20, 0, 1));
        Check.due("a slow clock there", 4, clock.both(0, 60, 0, 0));
        Check.due("as far as", 1440, clock.both(0, 60, 0, 1));
        clock.lease(0, 0, 0, 2);
        // 30 here by his leases: 40 there, or 40 here with one hour more and 30 there
        Check.due("his leases are here", 0, clock.both(0, 30, 0, 0));
        Check.due("of like ones the least", 40, clock.both(0, 30, 0, 1));
        ClockLodgers oiled = Check.clock("oil 5 9;tenant 10 left 12 1;");
        Check.due("oil is here alone", 12, oiled.both(0, 30, 0, 0));
        Check.due("as far as", 0, oiled.both(0, 30, 0, 1));
        Check.due("less oil on day 9", 11, oiled.both(0, 30, 9, 0));
        Check.due("as far as", 14, oiled.both(0, 30, 9, 1));
        Check.noSuch("both(3, 30, 0, 0)", () -> clock.both(3, 30, 0, 0));
        Check.noSuch("both(0, 30, 0, 2)", () -> clock.both(0, 30, 0, 2));
        Check.noSuch("both(0, 30, 0, -1)", () -> clock.both(0, 30, 0, -1));
        Check.noSuch("both(0, 19, -1, 2)", () -> clock.both(0, 19, -1, 2));
        Check.illegal("both(0, 19, 0, 0)", () -> clock.both(0, 19, 0, 0));
        Check.illegal("both(0, 61, 0, 0)", () -> clock.both(0, 61, 0, 0));
        Check.illegal("both(0, 30, -1, 0)", () -> clock.both(0, 30, -1, 0));
        Check.illegal("both(0, 30, 10000, 0)", () -> clock.both(0, 30, 10000, 0));
    }

    private static void winds() {
        ClockLodgers clock = new ClockLodgers();
        Check.due("no days", 0, clock.wind(1, 0, 100));
        Check.due("no chance", 0, clock.wind(1, 40, 0));
        Check.due("always", -5 * 24 * 40, clock.wind(1, 40, 100));
        // from 1: 38 58 13 15 51 27 10 19 12 86 49 67 84 60 25 43 89 83 37 66 66 78 95 11
        Check.due("below 20", -30, clock.wind(1, 1, 20));
        Check.due("below 12", -10, clock.wind(1, 1, 12));
        Check.due("below 11", -5, clock.wind(1, 1, 11));
        Check.due("below 10", 0, clock.wind(1, 1, 10));
        Check.due("below 95", -115, clock.wind(1, 1, 95));
        Check.due("below 96", -120, clock.wind(1, 1, 96));
        ClockLodgers low = Check.clock("base 20;oil 30 1;");
        Check.due("oil by days", 24 * (-50 - 49 - 48), low.wind(-7, 3, 0));
        Check.due("not 2 at least", 24 * -55, low.wind(-7, 1, 100));
        Check.illegal("wind(1, -1, 0)", () -> clock.wind(1, -1, 0));
        Check.illegal("wind(1, 41, 0)", () -> clock.wind(1, 41, 0));
        Check.illegal("wind(1, 0, -1)", () -> clock.wind(1, 0, -1));
        Check.illegal("wind(1, 0, 101)", () -> clock.wind(1, 0, 101));
    }
}
