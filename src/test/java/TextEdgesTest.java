/** The edges that the document names in its terms of a text and in promises 1 to 6: a test for each sentence. */
public final class TextEdgesTest {
    private static final String ONE = "tenant 1 both 1 1;";
    private static final String TWO = ONE + ONE;
    private static final String SIX = TWO + TWO + TWO;
    private static final String EIGHT_QUARRELS = "quarrel 0 1;quarrel 0 2;quarrel 0 3;quarrel 0 4;quarrel 0 5;"
            + "quarrel 1 2;quarrel 1 3;quarrel 1 4;";

    private interface Asked {
        int of(ClockLodgers clock);
    }

    public static void main(String[] args) {
        clockTold();
        tenantsTold();
        tokens();
        grammar();
        numbersOfRules();
        valuesOfRules();
        faults();
        tooMuch();
        unknown();
        newObject();
        tape();
        house();
        asking();
        Check.end();
    }

    /** A NUMBER between two parts of a text: the least and the greatest are fine, those beyond them are too much. */
    private static void range(String head, String tail, int least, int most, Asked asked) {
        for (int number = least - 1; number <= most + 1; number++) {
            if (number < 0) {
                Check.fault(head + number + tail, 1, head.length());
            } else if (number < least || number > most) {
                Check.fault(head + number + tail, 2, head.length());
            } else {
                Check.due("told by " + head + number + tail, number, asked.of(Check.clock(head + number + tail)));
            }
        }
        Check.fault(head + "9999" + tail, 2, head.length());
    }

    private static void without(int what, int want) {
        Check.due("count(" + what + ") without", want, Check.clock("").count(what));
        ClockLodgers clock = Check.clock("base 60;oil 30 99;stop 400;" + TWO + "quarrel 0 1;rule 1;");
        Check.due("house of blanks", 0, Check.read(clock, " "));
        Check.due("count(" + what + ") without, behind another house", want, clock.count(what));
    }

    private static void clockTold() {
        base();
        oil();
        oilDays();
        stop();
        textOf600();
    }

    private static void base() {
        Check.sentence("BASE (20 to 60; 30 without)");
        range("base ", ";", 20, 60, clock -> clock.count(0));
        without(0, 30);
    }

    private static void oil() {
        Check.sentence("OIL (0 to 30; 0 without)");
        range("oil ", " 5;", 0, 30, clock -> clock.count(1));
        without(1, 0);
    }

    private static void oilDays() {
        Check.sentence("of which one part is gone after each so many DAYS (1 to 99; 7 without)");
        range("oil 5 ", ";", 1, 99, clock -> clock.count(2));
        without(2, 7);
    }

    private static void stop() {
        Check.sentence("STOPS at a swing above STOP (41 to 400; 200 without)");
        range("stop ", ";", 41, 400, clock -> clock.count(3));
        without(3, 200);
    }

    private static void textOf600() {
        Check.sentence("A TEXT of at most 600 bytes tells it.");
        ClockLodgers last = Check.clock(" ".repeat(592) + "base 31;");
        Check.due("told by the last 8 bytes of 600", 31, last.count(0));
        Check.fault(" ".repeat(592) + "base 311", 2, 597);
        Check.fault(" ".repeat(593) + "base 31", 1, 600);
        Check.fault(";".repeat(600), 1, 0);
        Check.fault(";1".repeat(300), 1, 0);
        Check.fault("rule" + "1+".repeat(297) + "1;", 0, -1);
        Check.fault("rule" + "1+".repeat(298), 1, 600);
    }

    private static void tenantsTold() {
        mostTenants();
        weight();
        breath();
        stay();
        rent();
        mostQuarrels();
        mostRules();
    }

    private static void mostTenants() {
        Check.sentence("TENANTS 0, 1 .. (at most 6)");
        for (int tenants = 0; tenants <= 6; tenants++) {
            Check.due("count(4) of " + tenants, tenants, Check.clock(ONE.repeat(tenants)).count(4));
        }
        without(4, 0);
        Check.fault(SIX + ONE, 2, 108);
    }

    private static void weight() {
        Check.sentence("a WEIGHT (0 to 20)");
        range("tenant ", " both 1 1;", 0, 20, clock -> clock.tenant(0, 0));
    }

    private static void breath() {
        Check.sentence("a BREATH (0 left, 1 right, 2 both)");
        String[] words = {"left", "right", "both"};
        for (int breath = 0; breath < words.length; breath++) {
            Check.due(words[breath], breath, Check.clock("tenant 1 " + words[breath] + " 1 1;").tenant(0, 1));
        }
        for (String wrong : new String[] {"lef", "leftt", "rule", "or", "2", "12345", ";", "not", "weight", "quarrel"}) {
            Check.fault("tenant 1 " + wrong + " 1 1;", 1, 9);
        }
    }

    private static void stay() {
        Check.sentence("a STAY (1 to 12 HOURS)");
        range("tenant 1 both ", " 1;", 1, 12, clock -> clock.tenant(0, 2));
    }

    private static void rent() {
        Check.sentence("a RENT (0 to 99)");
        range("tenant 1 both 1 ", ";", 0, 99, clock -> clock.tenant(0, 3));
    }

    private static void mostQuarrels() {
        Check.sentence("QUARRELS (at most 8): couples of TENANTS.");
        for (int quarrels = 0; quarrels <= 8; quarrels++) {
            String text = SIX + EIGHT_QUARRELS.substring(0, 12 * quarrels);
            Check.due("count(5) of " + quarrels, quarrels, Check.clock(text).count(5));
        }
        without(5, 0);
        Check.fault(SIX + EIGHT_QUARRELS + "quarrel 1 5;", 2, 204);
    }

    private static void mostRules() {
        Check.sentence("RULES (at most 4).");
        for (int rules = 0; rules <= 4; rules++) {
            Check.due("count(6) of " + rules, rules, Check.clock("rule 1;".repeat(rules)).count(6));
        }
        without(6, 0);
        Check.fault("rule 1;".repeat(5), 2, 28);
        ClockLodgers fourth = Check.clock(ONE + "rule 1;rule 1;rule 1;rule hour;");
        Check.due("the fourth doesn't hold", 6, fourth.judge(0, 0, 0, 0));
        Check.due("the fourth holds", 0, fourth.judge(0, 0, 1, 1));
    }

    private static void tokens() {
        words();
        numbers();
        signs();
        blanks();
    }

    private static void words() {
        Check.sentence("words (a .. z, the longest row)");
        Check.fault("bas 30;", 1, 0);
        Check.fault("basee 30;", 1, 0);
        Check.fault("baseoil 30;", 1, 0);
        Check.fault("ba se 30;", 1, 0);
        Check.fault("Base 30;", 1, 0);
        Check.fault("basE 30;", 1, 0);
        Check.fault("rulehour;", 1, 0);
        Check.fault("rule houra;", 3, 5);
        Check.fault("rule hourz;", 3, 5);
        Check.fault("rule hoursz;", 3, 5);
        Check.fault("rule notnot 1;", 3, 5);
        Check.fault("rule hour`;", 1, 9);
        Check.fault("rule hour{;", 1, 9);
        Check.fault("rule(hour);", 0, -1);
        Check.fault("a".repeat(600), 1, 0);
        Check.fault("rule " + "z".repeat(595), 3, 5);
    }

    private static void numbers() {
        Check.sentence("NUMBERS (1 to 4 digits)");
        Check.fault("rule 0;", 0, -1);
        Check.fault("rule 9;", 0, -1);
        Check.fault("rule 9999;", 0, -1);
        Check.fault("rule 0000;", 0, -1);
        Check.fault("rule 00000;", 2, 5);
        Check.fault("base 0020;", 0, -1);
        Check.fault("base 00020;", 2, 5);
        Check.fault("base 3 0;", 2, 5);
        Check.fault("base 30 0;", 1, 8);
        Check.fault("base 30:", 1, 7);
        Check.fault("rule " + "0".repeat(594) + ";", 2, 5);
        Check.fault("rule " + "4294967297;", 2, 5);
    }

    /** Each of the 256 bytes between two parts of a rule. */
    private static void signs() {
        Check.sentence("signs ; ( ) + - * / < =");
        for (char c = 0; c < 256; c++) {
            String text = "rule 1" + c + "1;";
            if ("+-*/<=0123456789".indexOf(c) >= 0) {
                Check.fault(text, 0, -1);
            } else {
                boolean oneCanEndThere = c == ' ' || c == '\n' || c == ';';
                Check.fault(text, 1, oneCanEndThere ? 7 : 6);
            }
        }
        Check.fault("rule (1)(;", 1, 8);
    }

    /** Each of the 256 bytes ahead of a line, within it and behind it. */
    private static void blanks() {
        Check.sentence("blanks (32, 10) between them count for nothing");
        for (char c = 0; c < 256; c++) {
            boolean blank = c == 32 || c == 10;
            Check.fault(c + "base 31;", blank ? 0 : 1, blank ? -1 : 0);
            Check.fault("base 31;" + c, blank ? 0 : 1, blank ? -1 : 8);
            boolean digit = c >= '0' && c <= '9';
            if (!digit) {
                boolean letter = c >= 'a' && c <= 'z';
                Check.fault("stop" + c + "50;", blank ? 0 : 1, blank ? -1 : letter ? 0 : 4);
            }
        }
        Check.fault("  \n\n base \n 31 \n ; \n", 0, -1);
    }

    private static void grammar() {
        anyLines();
        endOfLine();
        oneWithinAnother();
        anyNumberOfTimes();
        perhaps();
        rightOfTests();
    }

    private static void anyLines() {
        Check.sentence("HOUSE: LINE*.");
        Check.fault("", 0, -1);
        Check.fault(" ", 0, -1);
        Check.fault("\n".repeat(600), 0, -1);
        Check.fault(";", 1, 0);
        Check.fault("rule 1;stop 41;" + ONE + "oil 0 1;base 20;", 0, -1);
    }

    private static void endOfLine() {
        Check.sentence("';', all in capitals but EXPR being NUMBERS");
        Check.fault("base 30", 1, 7);
        Check.fault("base 30;;", 1, 8);
        Check.fault("base 30 30;", 1, 8);
        Check.fault("base 30 oil 1 1;", 1, 8);
        Check.fault("base weight;", 1, 5);
        Check.fault("base (30);", 1, 5);
        Check.fault("tenant both both 1 1;", 1, 7);
        Check.fault(TWO + "quarrel 0 half;", 1, 46);
    }

    private static void oneWithinAnother() {
        Check.sentence("EXPR: AND ('or' AND)*. AND: NOT ('and' NOT)*.");
        holds("1 or 0 and 0", true);
        holds("0 and 0 or 1", true);
        holds("(1 or 0) and 0", false);
        holds("not 0 and 0", false);
        holds("not 1 or 1", true);
        holds("not 1=2", true);
        holds("not 0=0", false);
        Check.sentence("SUM: PRODUCT (('+' | '-') PRODUCT)*. PRODUCT: PART (('*' | '/') PART)*.");
        holds("1+2*3=7", true);
        holds("10-2*3=4", true);
        holds("10-6/2=7", true);
        holds("2*3-1=5", true);
        holds("1<0+2", true);
        holds("2=1+1 and 1+1=2", true);
    }

    private static void anyNumberOfTimes() {
        Check.sentence("In quotes is what stands there, * any number of times");
        holds("1" + "+1".repeat(200) + "=201", true);
        holds("1" + "-1".repeat(200) + "=0-199", true);
        holds("1" + "*2".repeat(31) + "<0", true);
        holds("1" + "*2".repeat(200) + "=0", true);
        holds("9999" + "/2".repeat(13) + "=1", true);
        holds("9999" + "/2".repeat(14) + "=0", true);
        holds("0" + " or 0".repeat(100) + " or 7", true);
        holds("0" + " or 0".repeat(100), false);
        holds("1" + " and 1".repeat(80) + " and 7", true);
        holds("1" + " and 1".repeat(80) + " and 0", false);
        // every sign waits for what is to its right, in as many EXPRS within one another as there may be
        String open = "0 or 1 and not not not not not not 0<0+1*(";
        ClockLodgers deepest = Check.clock(ONE + "rule " + open.repeat(5) + "hour=3" + ")".repeat(5) + ";");
        Check.due("it holds", 0, deepest.judge(0, 0, 3, 3));
        Check.due("it doesn't hold", 6, deepest.judge(0, 0, 4, 4));
        ClockLodgers full = Check.clock(ONE + "rule " + open.repeat(5) + open.substring(0, open.length() - 1)
                + "hour" + ")".repeat(5) + ";");
        Check.due("it holds", 0, full.judge(0, 0, 1, 23));
        Check.due("it doesn't hold", 6, full.judge(0, 0, 0, 0));
    }

    private static void perhaps() {
        Check.sentence("NOT: 'not' NOT | SUM [('<' | '=') SUM]");
        Check.fault("rule 1<2<3;", 1, 8);
        Check.fault("rule 1=2=3;", 1, 8);
        Check.fault("rule 1<2=3;", 1, 8);
        Check.fault("rule 1=2<3;", 1, 8);
        Check.fault("rule 1<2 and 1<2;", 0, -1);
        Check.fault("rule (1<2)<(2=3);", 0, -1);
        Check.fault("rule 1+2*3<4/5-6<7;", 1, 16);
        Check.fault("rule not 1<2<3;", 1, 12);
        Check.fault("rule not 1 not 2;", 1, 11);
    }

    private static void rightOfTests() {
        Check.sentence("PART: NUMBER | VALUE | '(' EXPR ')'");
        Check.fault("rule ();", 1, 6);
        Check.fault("rule (1;", 1, 7);
        Check.fault("rule 1);", 1, 6);
        Check.fault("rule (1));", 1, 8);
        Check.fault("rule ((1);", 1, 9);
        Check.fault("rule -1;", 1, 5);
        Check.fault("rule 1+-1;", 1, 7);
        Check.fault("rule 1+;", 1, 7);
        Check.fault("rule 1 or;", 1, 9);
        Check.fault("rule 1 and);", 1, 10);
        Check.fault("rule (1 or 0 and not 1<2);", 0, -1);
    }

    /** Whether a rule holds of a LEASE of the left half in HOUR 0. */
    private static void holds(String rule, boolean want) {
        ClockLodgers clock = Check.clock(ONE + "rule " + rule + ";");
        Check.due("judge under rule " + rule, want ? 0 : 6, clock.judge(0, 0, 0, 0));
    }

    private static void numbersOfRules() {
        fromTheLeft();
        wraps();
        cutDownToZero();
        byZero();
        oneOrZero();
    }

    private static void fromTheLeft() {
        Check.sentence("From the left");
        holds("10-3-2=5", true);
        holds("10-2+3=11", true);
        holds("100/10/5=2", true);
        holds("7/4*2=2", true);
        holds("7*2/4=3", true);
        holds("1-1-1<0", true);
    }

    private static void wraps() {
        Check.sentence("ints that wrap");
        String least = "4096*4096*128";
        holds(least + "<0", true);
        holds("0<" + least + "-1", true);
        holds("(" + least + "-1)+1<0", true);
        holds("(" + least + "-1)+1=" + least, true);
        holds("4096*4096*256=0", true);
        holds("4096*4096*256+5=5", true);
        holds("(" + least + ")/(0-1)=" + least, true);
        holds("0-" + least + "=" + least, true);
        holds(least + "<1", true);
        holds("1<" + least, false);
        holds("(" + least + "-1)<" + least, false);
        holds("9999*9999*9999*9999=9999*9999*(9999*9999)", true);
    }

    private static void cutDownToZero() {
        Check.sentence("/ cut down to 0");
        holds("7/2=3", true);
        holds("(0-7)/2=0-3", true);
        holds("7/(0-2)=0-3", true);
        holds("(0-7)/(0-2)=3", true);
        holds("(0-1)/2=0", true);
        holds("1/9999", false);
    }

    private static void byZero() {
        Check.sentence("by 0 gives 0");
        holds("5/0=0", true);
        holds("0/0=0", true);
        holds("5/0", false);
        holds("(0-5)/0=0", true);
        holds("4096*4096*128/0=0", true);
        holds("7+5/0*3=7", true);
        holds("7/(3-3)+1", true);
    }

    private static void oneOrZero() {
        Check.sentence("tests, not, and, or are 1 or 0 (what isn't 0 holds)");
        holds("0", false);
        holds("0-1", true);
        holds("4096*4096*128", true);
        holds("4096*4096*256", false);
        holds("(1<2)=1", true);
        holds("(2<2)=0", true);
        holds("(2=2)=1", true);
        holds("(1=2)=0", true);
        holds("(not 7)=0", true);
        holds("(not (0-7))=0", true);
        holds("(not 0)=1", true);
        holds("(not not 7)=1", true);
        holds("(2 and 4)=1", true);
        holds("(2 and 0)=0", true);
        holds("(0 and 2)=0", true);
        holds("(7 or 0)=1", true);
        holds("(0 or (0-7))=1", true);
        holds("(0 or 0)=0", true);
    }

    private static void valuesOfRules() {
        weightValue();
        halfValue();
        hourValue();
        hoursValue();
        otherValue();
        otherOfAPause();
        quarrelsValue();
    }

    private static void weightValue() {
        Check.sentence("'weight' (its TENANT's)");
        ClockLodgers clock = Check.clock("tenant 0 both 1 1;tenant 20 both 1 1;rule weight=20*half;");
        Check.due("0 to the left", 0, clock.judge(0, 0, 0, 0));
        Check.due("0 to the right", 6, clock.judge(0, 1, 0, 0));
        Check.due("20 to the left", 6, clock.judge(1, 0, 0, 0));
        Check.due("20 to the right", 0, clock.judge(1, 1, 0, 0));
    }

    private static void halfValue() {
        Check.sentence("'half' (0, 1, 2)");
        ClockLodgers clock = Check.clock(TWO + ONE + "rule half=2 or half=1 and weight=1 or half=0;rule half<2;");
        Check.due("left", 0, clock.lease(0, 0, 0, 0));
        Check.due("right", 0, clock.lease(1, 1, 0, 0));
        Check.due("the pause", 6, clock.lease(2, 2, 0, 0));
    }

    private static void hourValue() {
        Check.sentence("VALUES of a LEASE in an HOUR");
        ClockLodgers first = Check.clock(ONE + "rule hour=0;");
        Check.due("HOUR 0", 0, first.judge(0, 0, 0, 0));
        Check.due("HOURS 0 and 1", 6, first.judge(0, 0, 0, 1));
        ClockLodgers last = Check.clock(ONE + "rule hour=23;");
        Check.due("HOUR 23", 0, last.judge(0, 0, 23, 23));
        Check.due("HOURS 22 and 23", 6, last.judge(0, 0, 22, 23));
    }

    private static void hoursValue() {
        Check.sentence("'hours' (how many it has)");
        for (int hours = 1; hours <= 24; hours += 23) {
            ClockLodgers clock = Check.clock(ONE + "rule hours=" + hours + ";");
            Check.due("1 of " + hours, hours == 1 ? 0 : 6, clock.judge(0, 0, 23, 23));
            Check.due("2 of " + hours, 6, clock.judge(0, 0, 0, 1));
            Check.due("23 of " + hours, 6, clock.judge(0, 0, 1, 23));
            Check.due("24 of " + hours, hours == 24 ? 0 : 6, clock.judge(0, 0, 0, 23));
        }
        ClockLodgers neighbours = Check.clock(ONE + "rule hours=1;");
        neighbours.lease(0, 0, 3, 3);
        Check.due("one beside another is no longer one", 0, neighbours.lease(0, 0, 4, 4));
    }

    private static void otherValue() {
        Check.sentence("'other' (the WEIGHT of who is in the other half then");
        ClockLodgers clock = Check.clock("tenant 20 left 1 1;tenant 3 right 1 1;rule half=0 or other=20;");
        Check.due("nobody is in", 6, clock.judge(1, 1, 5, 5));
        clock.lease(0, 0, 5, 6);
        Check.due("in its first HOUR nobody", 6, clock.judge(1, 1, 4, 5));
        Check.due("in its last HOUR nobody", 6, clock.judge(1, 1, 6, 7));
        Check.due("in both one of 20", 0, clock.judge(1, 1, 5, 6));
        ClockLodgers nobody = Check.clock(ONE + "rule other=0;");
        Check.due("0 of nobody", 0, nobody.judge(0, 1, 0, 23));
    }

    private static void otherOfAPause() {
        Check.sentence("of a pause: of those in both halves together)");
        for (int sum = 39; sum <= 41; sum++) {
            ClockLodgers clock = Check.clock("tenant 20 both 1 1;tenant 20 both 1 1;tenant 20 both 1 1;rule half<2 or other="
                    + sum + ";");
            clock.lease(0, 0, 0, 23);
            clock.lease(1, 1, 0, 23);
            Check.due("other=" + sum, sum == 40 ? 0 : 6, clock.lease(2, 2, 0, 23));
        }
        ClockLodgers halves = Check.clock("tenant 4 both 1 1;tenant 4 both 1 1;tenant 9 both 1 1;rule half=2 or other<5;");
        halves.lease(0, 0, 0, 0);
        halves.lease(1, 1, 0, 0);
        Check.due("the pause is no half's other", 0, halves.lease(2, 2, 0, 0));
    }

    private static void quarrelsValue() {
        Check.sentence("'quarrels' (with how many of those in then its TENANT QUARRELS)");
        String three = TWO + ONE;
        for (int quarrels = 0; quarrels <= 2; quarrels++) {
            String told = three + "quarrel 2 0;quarrel 1 2;".substring(0, 12 * quarrels);
            for (int wanted = 0; wanted <= 3; wanted++) {
                ClockLodgers clock = Check.clock(told + "rule half<2 or quarrels=" + wanted + ";");
                clock.lease(0, 0, 0, 0);
                clock.lease(1, 1, 0, 0);
                Check.due(quarrels + " of " + wanted, quarrels == wanted ? 0 : 6, clock.lease(2, 2, 0, 0));
            }
        }
        ClockLodgers half = Check.clock(three + "quarrel 0 2;rule half=2 or quarrels<1;");
        half.lease(0, 0, 0, 0);
        half.lease(1, 1, 0, 0);
        Check.due("of a half, with the one in the pause", 6, half.lease(2, 2, 0, 0));
        ClockLodgers away = Check.clock(TWO + "quarrel 0 1;rule quarrels=0;");
        away.lease(0, 0, 3, 4);
        Check.due("in then", 6, away.judge(1, 1, 4, 5));
        Check.due("not in then", 0, away.judge(1, 1, 5, 6));
    }

    private static void faults() {
        firstAlong();
        firstByte();
        leastOfOneToken();
        cantStand();
        isNone();
        endsTooSoon();
    }

    private static void firstAlong() {
        Check.sentence("FAULTS, the first along the text");
        Check.fault("base 30;base 99999;?", 5, 8);
        Check.fault("base 61;base 30;", 2, 5);
        Check.fault("rule high ?;", 3, 5);
        Check.fault("quarrel 0 12345;?", 3, 8);
        Check.fault(ONE + "quarrel 0 0 ?", 4, 28);
        Check.fault("oil 31 0;", 2, 4);
        Check.fault("tenant 21 up 13 100", 2, 7);
    }

    private static void firstByte() {
        Check.sentence("at a TOKEN's first byte");
        Check.fault("  12345", 1, 2);
        Check.fault("base   61;", 2, 7);
        Check.fault("\n\nbases;", 1, 2);
        Check.fault("rule\nhigher;", 3, 5);
        Check.fault("base 30; base 30;", 5, 9);
        Check.fault(ONE + " quarrel 0\n 0000;", 4, 30);
    }

    private static void leastOfOneToken() {
        Check.sentence("of one TOKEN the least");
        Check.fault("base 30 base 30;", 1, 8);
        Check.fault("base 30 12345;", 1, 8);
        Check.fault(SIX + "base 30 tenant 1 both 1 1;", 1, 116);
        Check.fault("rule 1;".repeat(4) + "stop rule 1;", 1, 33);
        Check.fault("rule ((((((high;", 2, 11);
        Check.fault("rule ((((((10000;", 2, 11);
        Check.fault("quarrel 00000 1;", 2, 8);
        Check.fault(ONE + "quarrel 0 00000;", 2, 28);
        Check.fault("rule 1 high;", 1, 7);
        Check.fault("rule not not not not not not 1 not;", 1, 31);
        Check.fault("rule ((((((1));", 2, 11);
    }

    private static void cantStand() {
        Check.sentence("1 a TOKEN that can't stand there");
        Check.fault("left;", 1, 0);
        Check.fault("weight;", 1, 0);
        Check.fault("not;", 1, 0);
        Check.fault("0;", 1, 0);
        Check.fault("(base 30);", 1, 0);
        Check.fault("base oil;", 1, 5);
        Check.fault("base ;", 1, 5);
        Check.fault("oil 1;", 1, 5);
        Check.fault("oil 1 1 1;", 1, 8);
        Check.fault("tenant 1 both 1;", 1, 15);
        Check.fault("tenant 1 both 1 1 1;", 1, 18);
        Check.fault("quarrel ;", 1, 8);
        Check.fault(ONE + "quarrel 0;", 1, 27);
        Check.fault(TWO + "quarrel 0 1 0;", 1, 48);
        Check.fault("rule ;", 1, 5);
        Check.fault("rule 1 1;", 1, 7);
        Check.fault("rule 1 (1);", 1, 7);
        Check.fault("rule 1 base;", 1, 7);
        Check.fault("rule ((((((;", 1, 11);
        Check.fault("rule (((((();", 1, 11);
        Check.fault("rule ((((((<;", 1, 11);
    }

    private static void isNone() {
        Check.sentence("or is none");
        Check.fault("?", 1, 0);
        Check.fault("base ?;", 1, 5);
        Check.fault("base 30?;", 1, 7);
        Check.fault("rule ?;", 1, 5);
        Check.fault("rule 1>2;", 1, 6);
        Check.fault("rule ((((((?", 1, 11);
        Check.fault((char) 255 + "base 30;", 1, 0);
        Check.fault("base 30;" + (char) 128, 1, 8);
        Check.fault("base 30;" + (char) 0, 1, 8);
    }

    private static void endsTooSoon() {
        Check.sentence("(the text's length where it ends too soon)");
        String text = "base 30;oil 1 1;stop 50;" + TWO + "quarrel 0 1;rule not (1 or hour<2);";
        for (int size = 0; size <= text.length(); size++) {
            boolean whole = size == 0 || text.charAt(size - 1) == ';';
            String part = text.substring(0, size);
            if (whole) {
                Check.fault(part, 0, -1);
                Check.fault(part + " \n", 0, -1);
            } else if (!endsWithinAWord(text, size)) {
                Check.fault(part, 1, size);
                Check.fault(part + " \n", 1, size + 2);
            }
        }
        Check.fault("rule ((((((", 1, 11);
        Check.fault("rule not not not not not not ", 1, 29);
    }

    private static boolean endsWithinAWord(String text, int size) {
        return Character.isLetter(text.charAt(size - 1)) && Character.isLetter(text.charAt(size))
                || Character.isDigit(text.charAt(size - 1)) && Character.isDigit(text.charAt(size));
    }

    private static void tooMuch() {
        fiveDigits();
        notAsTold();
        seventhTenant();
        ninthQuarrel();
        fifthRule();
        withinSixOthers();
        seventhNot();
    }

    private static void fiveDigits() {
        Check.sentence("a NUMBER of 5 digits or more");
        Check.fault("base 00030;", 2, 5);
        Check.fault("oil 00001 1;", 2, 4);
        Check.fault("oil 1 00001;", 2, 6);
        Check.fault("stop 000050;", 2, 5);
        Check.fault("tenant 00001 both 1 1;", 2, 7);
        Check.fault("tenant 1 both 00001 1;", 2, 14);
        Check.fault("tenant 1 both 1 00001;", 2, 16);
        Check.fault(TWO + "quarrel 00000 1;", 2, 44);
        Check.fault(TWO + "quarrel 0 00001;", 2, 46);
        Check.fault("rule 00001;", 2, 5);
        Check.fault("rule 1+99999;", 2, 7);
        Check.fault("rule not 99999;", 2, 9);
        Check.fault(TWO + "quarrel 0000 0001;rule 0001;", 0, -1);
    }

    private static void notAsTold() {
        Check.sentence("or (not in an EXPR) not as told");
        Check.fault("base 9999;", 2, 5);
        Check.fault("rule 9999;rule 0;", 0, -1);
        Check.fault("rule 61-19/401;", 0, -1);
    }

    private static void seventhTenant() {
        Check.sentence("the first TOKEN of the 7th TENANT");
        Check.fault(SIX + "base 30; tenant 1 both 1 1;", 2, 117);
        Check.fault(SIX + "tenant", 2, 108);
        Check.fault(SIX + "tenants", 1, 108);
        Check.fault(SIX + "tenant ?", 2, 108);
    }

    private static void ninthQuarrel() {
        Check.sentence("the 9th QUARREL");
        Check.fault(SIX + EIGHT_QUARRELS, 0, -1);
        Check.fault(SIX + EIGHT_QUARRELS + "quarrel", 2, 204);
        Check.fault(SIX + EIGHT_QUARRELS + "quarrel 0 0;", 2, 204);
        Check.fault(SIX + EIGHT_QUARRELS + "quarrels 2 3;", 1, 204);
    }

    private static void fifthRule() {
        Check.sentence("the 5th RULE");
        Check.fault("rule 1;".repeat(4), 0, -1);
        Check.fault("rule 1;".repeat(4) + "rule", 2, 28);
        Check.fault("rule 1;".repeat(4) + "\nrule high;", 2, 29);
        Check.fault("rule 1;".repeat(4) + "rules 1;", 1, 28);
    }

    private static void withinSixOthers() {
        Check.sentence("of an EXPR within 6 others (a NUMBER, any word, a parenthesis)");
        Check.fault("rule (((((1)))));", 0, -1);
        Check.fault("rule (((((not weight<1)))));", 0, -1);
        Check.fault("rule (((((1)+(1)))));", 0, -1);
        Check.fault("rule (((((1)+((1))))));", 2, 15);
        Check.fault("rule (((((1))))) + (((((1)))));", 0, -1);
        Check.fault("rule (((((1))))) + ((((((1))))));", 2, 25);
        for (String first : new String[] {"0", "12345", "weight", "not", "high", "and", "base", "("}) {
            Check.fault("rule ((((((" + first + " 1))))));", 2, 11);
            Check.fault("rule not((((((" + first + " 1))))));", 2, 14);
        }
        ClockLodgers deepest = Check.clock(ONE + "rule (((((hour=3)))));");
        Check.due("the deepest is counted", 0, deepest.judge(0, 0, 3, 3));
        Check.due("the deepest is counted", 6, deepest.judge(0, 0, 4, 4));
    }

    private static void seventhNot() {
        Check.sentence("the seventh 'not' side by side");
        String six = "not not not not not not ";
        Check.fault("rule " + six + "1;", 0, -1);
        Check.fault("rule " + six + "not 1;", 2, 29);
        Check.fault("rule " + six + "not", 2, 29);
        Check.fault("rule " + six + "nots", 3, 29);
        Check.fault("rule " + six + "1 and " + six + "1 or " + six + "1;", 0, -1);
        Check.fault("rule " + six + "(" + six + "1);", 0, -1);
        Check.fault("rule " + six + "1 or " + six + "not 1;", 2, 58);
        holds(six + "1", true);
        holds(six + "(not 1)", false);
    }

    private static void unknown() {
        wordForAPart();
        notToldAhead();
        quarrelTwice();
        toldTwice();
    }

    private static void wordForAPart() {
        Check.sentence("3 any word where a PART must stand that is no VALUE");
        for (String word : new String[] {"high", "base", "oil", "stop", "tenant", "quarrel", "rule", "left", "right", "both",
            "or", "and", "weights", "halves", "o", "z"}) {
            Check.fault("rule " + word + ";", 3, 5);
            Check.fault("rule not " + word + ";", 3, 9);
            Check.fault("rule (" + word + ");", 3, 6);
            Check.fault("rule 1+" + word + ";", 3, 7);
            Check.fault("rule 1 or " + word + ";", 3, 10);
        }
        for (String sign : new String[] {"+", "-", "*", "/", "<", "="}) {
            Check.fault("rule 1" + sign + "not 1;", 3, 7);
        }
        for (String value : new String[] {"weight", "half", "hour", "hours", "other", "quarrels"}) {
            Check.fault("rule " + value + ";", 0, -1);
            Check.fault("rule 1*" + value + "/" + value + ";", 0, -1);
        }
    }

    private static void notToldAhead() {
        Check.sentence("a TENANT that isn't told ahead");
        Check.fault("quarrel 0 1;" + TWO, 3, 8);
        Check.fault(ONE + "quarrel 0 1;" + ONE, 3, 28);
        Check.fault(ONE + "quarrel 1 0;" + ONE, 3, 26);
        Check.fault(SIX + "quarrel 5 0;", 0, -1);
        Check.fault(SIX + "quarrel 6 0;", 3, 116);
        Check.fault(SIX + "quarrel 0 6;", 3, 118);
        Check.fault(SIX + "quarrel 0 9999;", 3, 118);
    }

    private static void quarrelTwice() {
        Check.sentence("4 the second TENANT of a QUARREL that is the first one, or with whom it was told (either way round)");
        Check.fault(ONE + "quarrel 0 0;", 4, 28);
        Check.fault(SIX + "quarrel 5 5;", 4, 118);
        Check.fault(TWO + "quarrel 0 1;quarrel 0 1;", 4, 58);
        Check.fault(TWO + "quarrel 0 1;quarrel 1 0;", 4, 58);
        Check.fault(TWO + "quarrel 0 1;quarrel 01 000;", 4, 59);
        Check.fault(SIX + "quarrel 0 1;quarrel 1 2;quarrel 2 0;", 0, -1);
    }

    private static void toldTwice() {
        Check.sentence("5 a second 'base', 'oil', 'stop'");
        Check.fault("base 30;oil 1 1;stop 50;", 0, -1);
        Check.fault("base 30;oil 1 1;stop 50;base", 5, 24);
        Check.fault("base 30;oil 1 1;stop 50;oil", 5, 24);
        Check.fault("base 30;oil 1 1;stop 50;stop", 5, 24);
        ClockLodgers clock = Check.clock("base 31;oil 1 1;stop 50;");
        Check.due("told again in a second text", 0, Check.read(clock, "base 32;oil 2 2;stop 60;"));
        Check.due("base in a faulty text", 1, Check.read(clock, "base 33;oil 2 2;stop 60"));
        Check.due("told again behind a faulty text", 0, Check.read(clock, "base 34;oil 2 2;stop 60;"));
        Check.due("BASE", 34, clock.count(0));
    }

    private static void newObject() {
        Check.sentence("A CLOCK as without all, no TENANTS.");
        ClockLodgers clock = new ClockLodgers();
        int[] want = {30, 0, 7, 200, 0, 0, 0, 0, 0, 0, 0, 0, 0};
        for (int what = 0; what < want.length; what++) {
            Check.due("count(" + what + ")", want[what], clock.count(what));
        }
        Check.due("NONE", -1, ClockLodgers.NONE);
        for (int hour = 0; hour <= 23; hour++) {
            for (int half = 0; half <= 2; half++) {
                Check.due("in(" + half + ", " + hour + ")", -1, clock.in(half, hour));
            }
        }
        Check.due("judge(0, 0, 0, 0)", 1, clock.judge(0, 0, 0, 0));
        Check.noSuch("tenant(0, 0)", () -> clock.tenant(0, 0));
        Check.noSuch("slowBy(0, 0)", () -> clock.slowBy(0, 0));
        Check.noSuch("rent(0)", () -> clock.rent(0));
        Check.noSuch("shared(0, 0)", () -> clock.shared(0, 0));
        Check.noSuch("both(0, 30, 0, 0)", () -> clock.both(0, 30, 0, 0));
        Check.noSuch("housed(0)", () -> clock.housed(0));
        Check.noSuch("visit(0)", () -> clock.visit(0));
        Check.due("cuckoo(60, 0)", 1, clock.cuckoo(60, 0));
        Check.due("slow(0, 23, 0)", 0, clock.slow(0, 23, 0));
        Check.due("fault()", -1, clock.fault());
        calls512();
    }

    private static void calls512() {
        Check.sentence("An object is used for at most 512 calls after it has been made");
        ClockLodgers clock = new ClockLodgers();
        for (int call = 1; call <= 508; call++) {
            clock.lease(0, 0, 0, 0);
        }
        Check.due("the 509th call", 1, clock.lease(0, 0, 0, 0));
        Check.due("the 510th call", -1, clock.offer(-1, 0, 0));
        Check.due("the 511th call", 1, clock.count(12));
        Check.due("the 512th call", 509, clock.count(11));
        ClockLodgers busy = Check.clock(ONE);
        for (int call = 3; call <= 510; call += 2) {
            busy.lease(0, 0, 0, 0);
            busy.undo();
        }
        Check.due("the 511th call", 0, busy.lease(0, 0, 0, 0));
        Check.due("the 512th call", 0, busy.undo());
    }

    private static int feedBlanks(ClockLodgers clock) {
        return clock.feed(0x20202020, 0x20202020, 0x20202020, 0x20202020, 0x20202020);
    }

    private static void tape() {
        highestFirst();
        fullTape();
    }

    private static void highestFirst() {
        Check.sentence("Twenty bytes come behind the tape, of each number the highest first");
        ClockLodgers clock = new ClockLodgers();
        Check.due("the first row", 20, clock.feed(0x6261_7365, 0x2033_313b, 0x6f69_6c20, 0x3920_3938, 0x3b73_746f));
        Check.due("the second row", 40, clock.feed(0x7020_3835, 0x3b20_2020, 0x2020_2020, 0x2020_2020, 0x2020_203f));
        Check.due("house(39)", 0, clock.house(39));
        int[] want = {31, 9, 98, 85};
        for (int what = 0; what < want.length; what++) {
            Check.due("count(" + what + ")", want[what], clock.count(what));
        }
        Check.due("bytes from 128 on", 20, clock.feed(0x2020_20ff, -1, Integer.MIN_VALUE, -1, -1));
        Check.due("are no TOKENS", 1, clock.house(20));
        Check.due("from their first on", 3, clock.fault());
    }

    private static void fullTape() {
        Check.sentence("how many it has; NONE, and none come, if it would have more than 600");
        ClockLodgers clock = new ClockLodgers();
        for (int bytes = 20; bytes <= 580; bytes += 20) {
            Check.due("feed", bytes, feedBlanks(clock));
        }
        Check.due("the 30th feed", 600, clock.feed(0x20202020, 0x20202020, 0x20202020, 0x62617365, 0x2033313b));
        Check.due("the 31st feed", -1, feedBlanks(clock));
        Check.due("the 32nd feed", -1, clock.feed(-1, -1, -1, -1, -1));
        Check.due("count(9)", 600, clock.count(9));
        Check.illegal("house(601)", () -> clock.house(601));
        Check.due("house(600)", 0, clock.house(600));
        Check.due("none came", 31, clock.count(0));
        Check.due("feed to an empty tape", 20, feedBlanks(clock));
    }

    private static void house() {
        firstBytes();
        allAnew();
        emptyThen();
        allStays();
        areGone();
        notSoMany();
        placeOfTheLatest();
    }

    private static void firstBytes() {
        Check.sentence("The tape's first n bytes");
        ClockLodgers clock = new ClockLodgers();
        Check.feed(clock, "base 31;oil 9 3;????");
        Check.due("all but the last four", 0, clock.house(16));
        Check.due("OIL", 9, clock.count(1));
        Check.feed(clock, "base 31;oil 9 3;????");
        Check.due("8 of 20", 0, clock.house(8));
        Check.due("OIL isn't told", 0, clock.count(1));
        Check.feed(clock, "base 31;oil 9 3;????");
        Check.due("all 20", 1, clock.house(20));
        Check.due("fault()", 16, clock.fault());
        Check.feed(clock, "base 31;oil 9 3;????");
        Check.due("none of 20", 0, clock.house(0));
        Check.due("BASE isn't told", 30, clock.count(0));
    }

    private static void allAnew() {
        Check.sentence("are a HOUSE, all anew");
        ClockLodgers clock = Check.clock(TWO + "quarrel 0 1;rule 1;rule 0<hour;");
        String[] texts = {"rule 0;", "rule 1;", "rule hour=5;", "rule 1 and 0;rule 1;", "rule 1;rule 1;rule 1;rule 0;", "",
            "rule not 0;", "rule 1;", "rule not 1;", "rule 0;"};
        int[] want = {6, 0, 6, 6, 6, 0, 0, 0, 6, 6};
        for (int i = 0; i < texts.length; i++) {
            Check.due("house", 0, Check.read(clock, ONE + texts[i]));
            Check.due("under " + texts[i], want[i], clock.judge(0, 0, 0, 0));
            Check.due("TENANTS", 1, clock.count(4));
            Check.due("QUARRELS", 0, clock.tenant(0, 6));
        }
        String[] faulty = {"rule not 1+2*(", "rule (((((1", "rule not not not not not not ", "rule 1 or 1 and 1=1+1*;", "rule (((((("};
        for (int round = 0; round < 10; round++) {
            for (String text : faulty) {
                Check.due("a FAULT", true, Check.read(clock, text) != 0);
                Check.due("house", 0, Check.read(clock, ONE + "rule (((((not 0 and hour=5)))));"));
                Check.due("it holds", 0, clock.judge(0, 0, 5, 5));
                Check.due("it doesn't hold", 6, clock.judge(0, 0, 6, 6));
                Check.due("too much, as ever", 2, Check.read(clock, "rule ((((((1))))));"));
            }
        }
    }

    private static void emptyThen() {
        Check.sentence("(it is empty then)");
        ClockLodgers clock = new ClockLodgers();
        Check.due("house(0) of an empty tape", 0, clock.house(0));
        feedBlanks(clock);
        feedBlanks(clock);
        Check.due("house(1)", 0, clock.house(1));
        Check.due("what stood behind is gone too", 0, clock.count(9));
        Check.illegal("house(1) of none", () -> clock.house(1));
        Check.feed(clock, "?");
        Check.due("a FAULT", 1, clock.house(20));
        Check.due("empty behind a FAULT", 0, clock.count(9));
        Check.due("feed begins anew", 20, feedBlanks(clock));
    }

    private static ClockLodgers inUse() {
        ClockLodgers clock = Check.clock("base 31;oil 3 4;stop 55;" + TWO + "quarrel 0 1;rule hour<20;");
        clock.lease(0, 0, 1, 2);
        clock.lease(0, 0, 1, 2);
        clock.offer(1, 1, 1);
        clock.offer(1, 1, -1);
        clock.house4(1, 0);
        clock.visits(1, 0);
        clock.image();
        return clock;
    }

    private static void allStays() {
        Check.sentence("0, or the FAULT (all stays)");
        String[] texts = {"base 50;oil 9 9;stop 77;" + SIX + ONE, "base 50;oil 9 9;stop 77;" + SIX + "quarrel 2 3;rule 0", "?",
            "rule 0;rule 0;rule 0;rule 0;rule 0;", "tenant 9 left 9 9;tenant 9 left 9 9;quarrel 0 1;quarrel 1 0;"};
        for (String text : texts) {
            ClockLodgers clock = inUse();
            Check.due("a FAULT", true, Check.read(clock, text) != 0);
            int[] want = {31, 3, 4, 55, 2, 1, 1, 1, 1, 0, 1, 1, 1};
            for (int what = 0; what < want.length; what++) {
                Check.due("count(" + what + ") behind " + text, want[what], clock.count(what));
            }
            int[] tenant = {1, 2, 1, 1, 2, 0, 2};
            for (int what = 0; what < tenant.length; what++) {
                Check.due("tenant(0, " + what + ") behind " + text, tenant[what], clock.tenant(0, what));
            }
            Check.due("in(0, 2)", 0, clock.in(0, 2));
            Check.due("visit(0)", 1, clock.visit(0));
            Check.due("housed(0)", true, clock.housed(0) >= 0);
            Check.due("the rule holds", 0, clock.judge(1, 0, 19, 19));
            Check.due("the rule doesn't hold", 6, clock.judge(1, 0, 20, 20));
            Check.due("the image", true, clock.restore());
        }
    }

    private static void areGone() {
        Check.sentence("LEASES, OFFERS, what was found, the image are gone (STATUS stays).");
        ClockLodgers clock = inUse();
        Check.read(clock, "?");
        Check.due("the same TENANTS", 0, Check.read(clock, TWO));
        int[] want = {30, 0, 7, 200, 2, 0, 0, 0, 0, 0, 1, 1, 1};
        for (int what = 0; what < want.length; what++) {
            Check.due("count(" + what + ")", want[what], clock.count(what));
        }
        Check.due("in(0, 1)", -1, clock.in(0, 1));
        Check.due("undo()", -1, clock.undo());
        Check.due("sublet(0)", 0, clock.sublet(0));
        Check.due("tenant(0, 4)", 0, clock.tenant(0, 4));
        Check.due("tenant(0, 6)", 0, clock.tenant(0, 6));
        Check.due("the rule is gone", 0, clock.judge(0, 0, 20, 23));
        Check.noSuch("visit(0)", () -> clock.visit(0));
        Check.noSuch("housed(0)", () -> clock.housed(0));
        Check.due("restore()", false, clock.restore());
    }

    private static void notSoMany() {
        Check.sentence("IllegalArgumentException: the tape has not so many, n below 0 (nothing changes).");
        ClockLodgers clock = inUse();
        Check.due("a FAULT", 2, Check.read(clock, "base 61;"));
        Check.feed(clock, "base 40;");
        for (int n : new int[] {-1, Integer.MIN_VALUE, 21, 601, Integer.MAX_VALUE}) {
            Check.illegal("house(" + n + ")", () -> clock.house(n));
            int[] want = {31, 3, 4, 55, 2, 1, 1, 1, 1, 20, 1, 1, 1};
            for (int what = 0; what < want.length; what++) {
                Check.due("count(" + what + ") behind house(" + n + ")", want[what], clock.count(what));
            }
            Check.due("fault()", 5, clock.fault());
            Check.due("visit(0)", 1, clock.visit(0));
            Check.due("the image", true, clock.restore());
        }
        Check.due("house(20)", 0, clock.house(20));
        Check.due("the tape was as it was", 40, clock.count(0));
    }

    private static void placeOfTheLatest() {
        Check.sentence("The place of the latest house()'s FAULT; NONE without.");
        ClockLodgers clock = new ClockLodgers();
        Check.due("without any", -1, clock.fault());
        Check.read(clock, "base 61;");
        Check.due("the first", 5, clock.fault());
        Check.due("asked again", 5, clock.fault());
        Check.read(clock, "?");
        Check.due("at the first byte", 0, clock.fault());
        Check.read(clock, "base");
        Check.due("at the end", 4, clock.fault());
        Check.read(clock, "base 60;");
        Check.due("without", -1, clock.fault());
    }

    private static void asking() {
        anotherWhat();
        noSuchTenant();
        noSuchWhat();
        hoursOfATenant();
    }

    private static void anotherWhat() {
        Check.sentence("10 to 12 STATUS 0 to 2. NoSuchElementException: another what.");
        ClockLodgers clock = inUse();
        Check.read(clock, "?");
        Check.read(clock, "?");
        clock.offer(0, 0, 100);
        clock.offer(0, 0, 100);
        Check.due("STATUS 0", 2, clock.count(10));
        Check.due("STATUS 1", 1, clock.count(11));
        Check.due("STATUS 2", 3, clock.count(12));
        for (int what : new int[] {-1, 13, Integer.MIN_VALUE, Integer.MAX_VALUE}) {
            Check.noSuch("count(" + what + ")", () -> clock.count(what));
        }
    }

    private static void noSuchTenant() {
        Check.sentence("NoSuchElementException: no such TENANT (as everywhere)");
        for (int tenants = 0; tenants <= 6; tenants++) {
            ClockLodgers clock = Check.clock(ONE.repeat(tenants));
            for (int tenant : new int[] {-1, tenants, 6, 7, Integer.MIN_VALUE, Integer.MAX_VALUE}) {
                noTenant(clock, tenant);
            }
            if (tenants > 0) {
                clock.lease(0, 0, 0, 0);
                Check.due("house4(1, 0)", 0, clock.house4(1, 0));
                Check.due("visits(1, 0)", 0, clock.visits(1, 0));
                noTenant(clock, -1);
                noTenant(clock, tenants);
                int last = tenants - 1;
                Check.due("the last one", 1, clock.tenant(last, 0));
                Check.due("the last one's visit", last == 0 ? 0 : -1, clock.visit(last));
                Check.due("the last one's rent", last == 0 ? 1 : 0, clock.rent(last));
            }
        }
    }

    private static void noTenant(ClockLodgers clock, int tenant) {
        Check.noSuch("tenant(" + tenant + ", 0)", () -> clock.tenant(tenant, 0));
        Check.noSuch("slowBy(" + tenant + ", 0)", () -> clock.slowBy(tenant, 0));
        Check.noSuch("housed(" + tenant + ")", () -> clock.housed(tenant));
        Check.noSuch("visit(" + tenant + ")", () -> clock.visit(tenant));
        Check.noSuch("rent(" + tenant + ")", () -> clock.rent(tenant));
        Check.noSuch("shared(" + tenant + ", 0)", () -> clock.shared(tenant, 0));
        Check.noSuch("both(" + tenant + ", 30, 0, 0)", () -> clock.both(tenant, 30, 0, 0));
    }

    private static void noSuchWhat() {
        Check.sentence("6 with whom he QUARRELS (bits). NoSuchElementException: no such TENANT (as everywhere), what.");
        ClockLodgers clock = Check.clock(SIX + "quarrel 5 0;quarrel 5 1;quarrel 2 5;quarrel 3 5;quarrel 5 4;");
        Check.due("tenant(5, 6)", 31, clock.tenant(5, 6));
        Check.due("tenant(0, 6)", 32, clock.tenant(0, 6));
        Check.due("tenant(4, 6)", 32, clock.tenant(4, 6));
        for (int what : new int[] {-1, 7, Integer.MIN_VALUE, Integer.MAX_VALUE}) {
            Check.noSuch("tenant(0, " + what + ")", () -> clock.tenant(0, what));
            Check.noSuch("tenant(6, " + what + ")", () -> clock.tenant(6, what));
        }
    }

    private static void hoursOfATenant() {
        Check.sentence("4 HOURS in halves, 5 HOURS in pauses");
        ClockLodgers clock = Check.clock(TWO + TWO);
        Check.due("none", 0, clock.tenant(0, 4) + clock.tenant(0, 5));
        clock.lease(0, 0, 0, 23);
        clock.lease(1, 1, 0, 23);
        clock.lease(2, 2, 0, 23);
        int[][] want = {{24, 0}, {24, 0}, {0, 24}, {0, 0}};
        for (int tenant = 0; tenant < want.length; tenant++) {
            Check.due("tenant(" + tenant + ", 4)", want[tenant][0], clock.tenant(tenant, 4));
            Check.due("tenant(" + tenant + ", 5)", want[tenant][1], clock.tenant(tenant, 5));
        }
        clock.undo();
        Check.due("undone", 0, clock.tenant(2, 5));
    }
}
