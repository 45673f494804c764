/** Promises 1 to 6: a new object, the tape, the text with its faults, what a text tells. */
public final class TextTest {
    private static final String ONE = "tenant 1 both 1 1;";
    private static final String SIX = ONE + ONE + ONE + ONE + ONE + ONE;

    public static void main(String[] args) {
        newObject();
        feeding();
        lines();
        numbers();
        tooMany();
        quarrels();
        rules();
        depths();
        nots();
        wrongCalls();
        faultChangesNothing();
        houseMakesAnew();
        tenants();
        Check.end();
    }

    private static void newObject() {
        ClockLodgers clock = new ClockLodgers();
        int[] want = {30, 0, 7, 200, 0, 0, 0, 0, 0, 0, 0, 0, 0};
        for (int what = 0; what < want.length; what++) {
            Check.due("new count(" + what + ")", want[what], clock.count(what));
        }
        Check.noSuch("count(-1)", () -> clock.count(-1));
        Check.noSuch("count(13)", () -> clock.count(13));
        Check.due("new fault()", ClockLodgers.NONE, clock.fault());
        Check.due("new undo()", -1, clock.undo());
        Check.due("new restore()", 0, clock.restore() ? 1 : 0);
        Check.due("new in(2, 23)", -1, clock.in(2, 23));
        Check.due("new swing(0, 0)", 60, clock.swing(0, 0));
        Check.noSuch("new tenant(0, 0)", () -> clock.tenant(0, 0));
        Check.noSuch("new housed(0)", () -> clock.housed(0));
        Check.noSuch("new visit(0)", () -> clock.visit(0));
        Check.illegal("new visits(1, 0)", () -> clock.visits(1, 0));
        Check.illegal("new house4(1, 0)", () -> clock.house4(1, 0));
    }

    private static void feeding() {
        ClockLodgers clock = new ClockLodgers();
        int blanks = 0x20202020;
        for (int i = 1; i <= 30; i++) {
            Check.due("feed " + i, 20 * i, clock.feed(blanks, blanks, blanks, blanks, blanks));
        }
        Check.due("the 31st feed", -1, clock.feed(blanks, blanks, blanks, blanks, blanks));
        Check.due("count(9) of a full tape", 600, clock.count(9));
        Check.due("house(600) of blanks", 0, clock.house(600));
        Check.due("count(9) behind house", 0, clock.count(9));
        // "base 3" "1;" over the bounds of the numbers: the highest byte comes first
        Check.due("feed", 20, clock.feed(0x62617365, 0x2033313b, 0x6f696c20, 0x39203938, 0x3b202020));
        Check.due("house(17)", 0, clock.house(17));
        Check.due("BASE fed", 31, clock.count(0));
        Check.due("OIL fed", 9, clock.count(1));
        Check.due("days fed", 98, clock.count(2));
        // as many tokens as bytes
        Check.fault(";".repeat(600), 1, 0);
        Check.fault("rule" + "(".repeat(596), 2, 10);
        Check.fault("rule" + "1+".repeat(297) + "1;", 0, -1);
        Check.fault("rule" + "1+".repeat(298), 1, 600);
        // bytes from 128 on are no tokens
        Check.due("feed", 20, clock.feed(0x20ff8080, -1, -1, -1, -1));
        Check.due("house of high bytes", 1, clock.house(20));
        Check.due("fault() of high bytes", 1, clock.fault());
    }

    private static void lines() {
        Check.fault("", 0, -1);
        Check.fault(" \n ", 0, -1);
        Check.fault("base 30", 1, 7);
        Check.fault("base 30  ", 1, 9);
        Check.fault("base;", 1, 4);
        Check.fault("base base 30;", 1, 5);
        Check.fault("base 30 40;", 1, 8);
        Check.fault("Base 30;", 1, 0);
        Check.fault("base\t30;", 1, 4);
        Check.fault("base30;", 0, -1);
        Check.fault("\nbase\n30\n;\n", 0, -1);
        Check.fault("basee 30;", 1, 0);
        Check.fault("bas 30;", 1, 0);
        Check.fault(";", 1, 0);
        Check.fault("30;", 1, 0);
        Check.fault("12345;", 1, 0);
        Check.fault("base 30;;", 1, 8);
        Check.fault("base 30;base 30;", 5, 8);
        Check.fault("base 30;base 99999;", 5, 8);
        Check.fault("oil 1 1;oil 1 1;", 5, 8);
        Check.fault("stop 50;stop 50;", 5, 8);
        Check.fault("oil 1;", 1, 5);
        Check.fault("tenant 5 up 1 1;", 1, 9);
        Check.fault("tenant 5 leftx 1 1;", 1, 9);
        Check.fault("tenant 5 base 1 1;", 1, 9);
        Check.fault("tenant 5 or 1 1;", 1, 9);
        Check.fault("tenant 5 1 1;", 1, 9);
        Check.fault("tenant 5left1 1;", 0, -1);
        Check.fault("tenant 5 left 1;", 1, 15);
        Check.fault("tenant left 1 1;", 1, 7);
        Check.fault("tenant 1 left 1 1 1;", 1, 18);
    }

    private static void numbers() {
        Check.fault("base 20;", 0, -1);
        Check.fault("base 60;", 0, -1);
        Check.fault("base 19;", 2, 5);
        Check.fault("base 61;", 2, 5);
        Check.fault("base 0030;", 0, -1);
        Check.fault("base 00030;", 2, 5);
        Check.fault("base 99999999999999;", 2, 5);
        Check.fault("oil 30 99;", 0, -1);
        Check.fault("oil 0 1;", 0, -1);
        Check.fault("oil 31 1;", 2, 4);
        Check.fault("oil 5 0;", 2, 6);
        Check.fault("oil 5 100;", 2, 6);
        Check.fault("stop 41;", 0, -1);
        Check.fault("stop 400;", 0, -1);
        Check.fault("stop 40;", 2, 5);
        Check.fault("stop 401;", 2, 5);
        Check.fault("tenant 20 both 12 99;", 0, -1);
        Check.fault("tenant 0 left 1 0;", 0, -1);
        Check.fault("tenant 21 both 12 99;", 2, 7);
        Check.fault("tenant 5 left 0 1;", 2, 14);
        Check.fault("tenant 5 left 13 1;", 2, 14);
        Check.fault("tenant 5 left 1 100;", 2, 16);
        Check.fault("tenant 5 left 1 00000;", 2, 16);
    }

    private static void tooMany() {
        Check.fault(SIX, 0, -1);
        Check.fault(SIX + ONE, 2, 108);
        Check.fault(SIX + "tenant", 2, 108);
        String eight = "quarrel 0 1;quarrel 0 2;quarrel 0 3;quarrel 0 4;quarrel 0 5;quarrel 1 2;quarrel 1 3;quarrel 1 4;";
        Check.fault(SIX + eight, 0, -1);
        Check.fault(SIX + eight + "quarrel 0 1;", 2, 204);
        Check.fault("rule 1;rule 1;rule 1;rule 1;", 0, -1);
        Check.fault("rule 1;rule 1;rule 1;rule 1;rule 1;", 2, 28);
    }

    private static void quarrels() {
        Check.fault("quarrel 0 1;", 3, 8);
        Check.fault(ONE + "quarrel 0 1;", 3, 28);
        Check.fault(ONE + "quarrel 0 0;", 4, 28);
        Check.fault("quarrel 0 1;" + ONE + ONE, 3, 8);
        Check.fault(ONE + ONE + "quarrel 0 1;", 0, -1);
        Check.fault(ONE + ONE + "quarrel 0 1;quarrel 1 0;", 4, 58);
        Check.fault(ONE + ONE + "quarrel 0 1;quarrel 0 1;", 4, 58);
        Check.fault(ONE + ONE + "quarrel 00010 1;", 2, 44);
        Check.fault(ONE + ONE + "quarrel 0 00010;", 2, 46);
        Check.fault(ONE + ONE + "quarrel 6 1;", 3, 44);
        Check.fault(ONE + ONE + "quarrel x 1;", 1, 44);
        Check.fault(ONE + ONE + "quarrel 0;", 1, 45);
    }

    private static void rules() {
        Check.fault("rule ;", 1, 5);
        Check.fault("rule 1", 1, 6);
        Check.fault("rule 1+;", 1, 7);
        Check.fault("rule +1;", 1, 5);
        Check.fault("rule 1 2;", 1, 7);
        Check.fault("rule 1 10000;", 1, 7);
        Check.fault("rule weight half;", 1, 12);
        Check.fault("rule 1 high;", 1, 7);
        Check.fault("rule 1 not 1;", 1, 7);
        Check.fault("rule 1<2<3;", 1, 8);
        Check.fault("rule 1<2=3;", 1, 8);
        Check.fault("rule 1<2+3*4=3;", 1, 12);
        Check.fault("rule (1<2)<3;", 0, -1);
        Check.fault("rule 1<2 and 1<2 or 1=1 and not 3<4;", 0, -1);
        Check.fault("rule 1<not 1;", 3, 7);
        Check.fault("rule 1+and;", 3, 7);
        Check.fault("rule 1*not 1;", 3, 7);
        Check.fault("rule or;", 3, 5);
        Check.fault("rule base;", 3, 5);
        Check.fault("rule high;", 3, 5);
        Check.fault("rule hourss;", 3, 5);
        Check.fault("rule z;", 3, 5);
        Check.fault("rule 1 and zaz;", 3, 11);
        Check.fault("rule `;", 1, 5);
        Check.fault("rule {;", 1, 5);
        Check.fault("rule not x;", 3, 9);
        Check.fault("rule not ;", 1, 9);
        Check.fault("rule 1 or;", 1, 9);
        Check.fault("rule 1 or or;", 3, 10);
        Check.fault("rule 1 or not 1;", 0, -1);
        Check.fault("rule 1);", 1, 6);
        Check.fault("rule (1;", 1, 7);
        Check.fault("rule ();", 1, 6);
        Check.fault("rule (1", 1, 7);
        Check.fault("rule 1>2;", 1, 6);
        Check.fault("rule 10000;", 2, 5);
        Check.fault("rule 9999;", 0, -1);
        Check.fault("rule weight+half+hour+hours+other+quarrels;", 0, -1);
    }

    private static void depths() {
        Check.fault("rule (((((1)))));", 0, -1);
        Check.fault("rule (((((1))))) and (((((2)))));", 0, -1);
        Check.fault("rule ((((((1))))));", 2, 11);
        Check.fault("rule ((((((weight))))));", 2, 11);
        Check.fault("rule ((((((high))))));", 2, 11);
        Check.fault("rule ((((((not 1))))));", 2, 11);
        Check.fault("rule ((((((and))))));", 2, 11);
        Check.fault("rule ((((((12345))))));", 2, 11);
        Check.fault("rule (((((((1)))))));", 2, 11);
        Check.fault("rule (((((()))))));", 1, 11);
        Check.fault("rule ((((((+", 1, 11);
        Check.fault("rule ((((((", 1, 11);
        Check.fault("rule ((((((?", 1, 11);
    }

    private static void nots() {
        Check.fault("rule not not not not not not 1;", 0, -1);
        Check.fault("rule not not not not not not not 1;", 2, 29);
        Check.fault("rule not not not not not not (not not not not not not 1);", 0, -1);
        Check.fault("rule not not not not not not 1 and not not not not not not 1;", 0, -1);
        Check.fault("rule not not not not not not 1 or not not not not not not not 1;", 2, 58);
        Check.fault("rule not not not not not not high;", 3, 29);
    }

    private static void wrongCalls() {
        ClockLodgers clock = new ClockLodgers();
        Check.due("house of a fault", 1, Check.read(clock, "base"));
        Check.feed(clock, "base 40;");
        Check.illegal("house(-1)", () -> clock.house(-1));
        Check.illegal("house(21)", () -> clock.house(21));
        Check.illegal("house(least int)", () -> clock.house(Integer.MIN_VALUE));
        Check.due("fault() stays", 4, clock.fault());
        Check.due("tape stays", 20, clock.count(9));
        Check.due("refused texts stay", 1, clock.count(10));
        Check.due("house(8)", 0, clock.house(8));
        Check.due("fault() is gone", -1, clock.fault());
        Check.due("BASE", 40, clock.count(0));
        Check.due("the tape is empty, with what stood behind too", 0, clock.count(9));
        Check.due("house(0)", 0, clock.house(0));
        Check.due("BASE without", 30, clock.count(0));
    }

    private static void faultChangesNothing() {
        ClockLodgers clock = Check.clock("base 31;oil 3 4;stop 55;" + ONE + ONE + "quarrel 0 1;rule 1;");
        clock.lease(0, 0, 1, 2);
        clock.offer(1, 1, 1);
        clock.image();
        clock.house4(1, 0);
        clock.visits(1, 0);
        Check.due("house with a fault", 2, Check.read(clock, "base 50;oil 9 9;stop 77;" + SIX + ONE));
        int[] want = {31, 3, 4, 55, 2, 1, 1, 1, 1, 0, 1, 0, 0};
        for (int what = 0; what < want.length; what++) {
            Check.due("count(" + what + ") behind a fault", want[what], clock.count(what));
        }
        Check.due("visit(0)", 1, clock.visit(0));
        Check.due("visit(1)", -1, clock.visit(1));
        Check.due("housed(1)", -1, clock.housed(1));
        Check.due("restore()", 1, clock.restore() ? 1 : 0);
        Check.due("the rule still holds", 0, clock.judge(1, 0, 5, 6));
        Check.due("tenant(0, 6)", 2, clock.tenant(0, 6));
    }

    private static void houseMakesAnew() {
        ClockLodgers clock = Check.clock("base 31;oil 3 4;stop 55;" + ONE + ONE + "quarrel 0 1;rule 0<hour;");
        clock.lease(0, 0, 1, 2);
        clock.lease(0, 0, 1, 2);
        clock.offer(1, 1, 1);
        clock.offer(1, 1, -1);
        clock.image();
        clock.house4(1, 0);
        clock.visits(1, 0);
        Check.due("a new house", 0, Check.read(clock, ONE + ONE));
        int[] want = {30, 0, 7, 200, 2, 0, 0, 0, 0, 0, 0, 1, 1};
        for (int what = 0; what < want.length; what++) {
            Check.due("count(" + what + ") of a new house", want[what], clock.count(what));
        }
        Check.noSuch("visit(0)", () -> clock.visit(0));
        Check.noSuch("housed(0)", () -> clock.housed(0));
        Check.due("restore()", 0, clock.restore() ? 1 : 0);
        Check.due("tenant(0, 6)", 0, clock.tenant(0, 6));
        Check.due("in(0, 1)", -1, clock.in(0, 1));
        Check.due("the rule is gone", 0, clock.judge(0, 0, 0, 0));
    }

    private static void tenants() {
        ClockLodgers clock = Check.clock("tenant 5 left 6 10;tenant 8 right 5 7;tenant 3 both 4 9;quarrel 2 0;quarrel 0 1;");
        clock.lease(0, 0, 8, 11);
        clock.lease(1, 1, 8, 11);
        clock.lease(2, 2, 9, 10);
        clock.lease(2, 1, 20, 23);
        int[][] want = {{5, 0, 6, 10, 4, 0, 6}, {8, 1, 5, 7, 4, 0, 1}, {3, 2, 4, 9, 4, 2, 1}};
        for (int tenant = 0; tenant < 3; tenant++) {
            for (int what = 0; what < 7; what++) {
                Check.due("tenant(" + tenant + ", " + what + ")", want[tenant][what], clock.tenant(tenant, what));
            }
        }
        Check.noSuch("tenant(3, 0)", () -> clock.tenant(3, 0));
        Check.noSuch("tenant(-1, 0)", () -> clock.tenant(-1, 0));
        Check.noSuch("tenant(0, 7)", () -> clock.tenant(0, 7));
        Check.noSuch("tenant(0, -1)", () -> clock.tenant(0, -1));
    }
}
