import java.util.ArrayList;
import java.util.List;

/** The sentences of the document that name no edge, and so have no test in the four EdgesTests. */
public final class SentencesTest {
    private static final String HOUSE = "base 28;oil 9 4;stop 80;tenant 5 left 6 10;tenant 8 right 4 7;"
            + "tenant 3 both 3 5;tenant 12 both 2 0;quarrel 0 1;quarrel 3 2;rule hours<9;";
    private static final String[] SIGNS = {";", "(", ")", "+", "-", "*", "/", "<", "="};
    private static final String[] WORDS = {"base", "oil", "stop", "tenant", "quarrel", "rule", "left", "right", "both",
        "or", "and", "not", "weight", "half", "hour", "hours", "other", "quarrels", "number", "lefts", "a"};
    private static final String[] NO_TOKENS = {"!", "\t", "A", "\0", "\r", "\177", "\377", "_", ".", ":", ">", ","};

    public static void main(String[] args) {
        lines();
        perhaps();
        hourOfRule();
        tooMuch();
        none();
        counts();
        tenants();
        swings();
        slowness();
        byWhom();
        housedPlaces();
        cuckoo();
        visits();
        rents();
        shares();
        twoClocks();
        onADay();
        wind();
        nothingElse();
        Check.end();
    }

    /** The house above with both halves let from 8 to 11, and the pause from 9 to 10. */
    private static ClockLodgers lodged() {
        ClockLodgers clock = Check.clock(HOUSE);
        Check.due("lease(0, 0, 6, 11)", 0, clock.lease(0, 0, 6, 11));
        Check.due("lease(1, 1, 8, 13)", 0, clock.lease(1, 1, 8, 13));
        Check.due("lease(2, 2, 9, 10)", 0, clock.lease(2, 2, 9, 10));
        Check.due("lease(3, 0, 12, 13)", 0, clock.lease(3, 0, 12, 13));
        return clock;
    }

    private static void lines() {
        Check.sentence("LINE: ('base' NUMBER | 'oil' NUMBER NUMBER | 'stop' NUMBER | 'tenant' WEIGHT "
                + "('left' | 'right' | 'both') STAY RENT | 'quarrel' TENANT TENANT | 'rule' EXPR) ';'");
        wrongInEachPlace("", "base 30 ;");
        wrongInEachPlace("", "oil 5 5 ;");
        wrongInEachPlace("", "stop 50 ;");
        for (String breath : new String[] {"left", "right", "both"}) {
            wrongInEachPlace("", "tenant 5 " + breath + " 5 5 ;");
        }
        wrongInEachPlace("tenant 1 both 1 1;tenant 1 both 1 1; ", "quarrel 0 1 ;");
        Check.fault("rule 1;", 0, -1);
        Check.fault("rule 1 base 30;", 1, 7);
        Check.fault("rule", 1, 4);
        Check.fault("rule 1", 1, 6);
    }

    /** Each TOKEN of a line in turn is replaced by all that can't stand in its place, or the text ends there. */
    private static void wrongInEachPlace(String ahead, String line) {
        Check.fault(ahead + line, 0, -1);
        String[] tokens = line.split(" ");
        for (int i = 0; i < tokens.length; i++) {
            StringBuilder head = new StringBuilder(ahead);
            StringBuilder tail = new StringBuilder();
            for (int j = 0; j < tokens.length; j++) {
                if (j != i) {
                    (j < i ? head : tail).append(j < i ? "" : " ").append(tokens[j]).append(j < i ? " " : "");
                }
            }
            for (String wrong : wrongFor(tokens[i], i)) {
                Check.fault(head + wrong + tail, 1, head.length());
            }
            if (i > 0) {
                Check.fault(head.toString(), 1, head.length());
            }
        }
    }

    private static List<String> wrongFor(String token, int place) {
        List<String> wrong = new ArrayList<>(List.of(NO_TOKENS));
        boolean isBreath = List.of("left", "right", "both").contains(token);
        for (String word : WORDS) {
            boolean beginsLine = List.of("base", "oil", "stop", "tenant", "quarrel", "rule").contains(word);
            boolean fits = place == 0 ? beginsLine : isBreath && List.of("left", "right", "both").contains(word);
            if (!fits) {
                wrong.add(word);
            }
        }
        for (String sign : SIGNS) {
            if (!sign.equals(token)) {
                wrong.add(sign);
            }
        }
        if (!Character.isDigit(token.charAt(0))) {
            wrong.add("5");
            wrong.add("123456");
        }
        return wrong;
    }

    private static void perhaps() {
        Check.sentence("[ ] is perhaps");
        String[] fine = {"rule weight;", "rule weight<9;", "rule weight=5;", "rule 1+weight<19-weight;", "rule not weight=9;"};
        for (String rule : fine) {
            Check.due("judged by " + rule, 0, Check.clock("tenant 5 both 1 1;" + rule).judge(0, 0, 0, 0));
        }
        Check.fault("rule 1<2<3;", 1, 8);
        Check.fault("rule 1=2<3;", 1, 8);
        Check.fault("rule <2;", 1, 5);
    }

    private static void hourOfRule() {
        Check.sentence("'hour'");
        for (int hour = 0; hour <= 23; hour++) {
            ClockLodgers clock = Check.clock("tenant 5 both 1 1;rule hour=" + hour + ";");
            for (int asked = 0; asked <= 23; asked++) {
                Check.due("judged in HOUR " + asked, asked == hour ? 0 : 6, clock.judge(0, 0, asked, asked));
            }
        }
        ClockLodgers evening = Check.clock("tenant 5 both 1 1;rule 17<hour;");
        Check.due("all its HOURS are in the evening", 0, evening.judge(0, 0, 18, 23));
        Check.due("its first one isn't", 6, evening.judge(0, 0, 17, 23));
    }

    private static void tooMuch() {
        Check.sentence("2 one that can, but is too much");
        Check.fault("base 61;", 2, 5);
        Check.fault("base 30 61;", 1, 8);
        Check.fault("61;", 1, 0);
        Check.fault("123456;", 1, 0);
        Check.fault("base 30 123456;", 1, 8);
        Check.fault("rule 1 123456;", 1, 7);
        Check.fault("tenant 5 123456 1 1;", 1, 9);
    }

    private static void none() {
        Check.sentence("`NONE = -1`: There is none.");
        Check.due("NONE", -1, ClockLodgers.NONE);
        ClockLodgers clock = new ClockLodgers();
        Check.due("no FAULT", ClockLodgers.NONE, clock.fault());
        Check.due("no LEASE to undo", ClockLodgers.NONE, clock.undo());
        Check.due("nobody is in", ClockLodgers.NONE, clock.in(0, 0));
        Check.due("no first CASE", ClockLodgers.NONE, clock.cuckoo(0, 3));
        Check.due("no OFFER", ClockLodgers.NONE, clock.offer(0, 24, 0));
        Check.due("no WEDDING", ClockLodgers.NONE, clock.wedding(0));
        ClockLodgers strict = Check.clock("tenant 5 both 1 1;rule 0;");
        Check.due("no way", ClockLodgers.NONE, strict.house4(1, 0));
        Check.due("no VISITS", ClockLodgers.NONE, strict.visits(1, 0));
    }

    private static void counts() {
        Check.sentence("0 BASE, 1 OIL, 2 after how many DAYS one is gone, 3 STOP, 4 TENANTS, 5 QUARRELS, 6 RULES, "
                + "7 LEASES, 8 OFFERS, 9 bytes of the tape");
        ClockLodgers clock = lodged();
        clock.offer(11, 11, 5);
        clock.offer(11, 11, 6);
        clock.offer(8, 8, 7);
        clock.feed(0, 0, 0, 0, 0);
        clock.feed(0, 0, 0, 0, 0);
        int[] want = {28, 9, 4, 80, 4, 2, 1, 4, 3, 40, 0, 0, 0};
        for (int what = 0; what < want.length; what++) {
            Check.due("count(" + what + ")", want[what], clock.count(what));
        }
    }

    private static void tenants() {
        Check.sentence("Of a TENANT: 0 WEIGHT, 1 BREATH, 2 STAY, 3 RENT, 4 HOURS in halves, 5 HOURS in pauses, "
                + "6 with whom he QUARRELS (bits).");
        int[][] want = {{5, 0, 6, 10, 6, 0, 2}, {8, 1, 4, 7, 6, 0, 1}, {3, 2, 3, 5, 0, 2, 8}, {12, 2, 2, 0, 2, 0, 4}};
        ClockLodgers clock = lodged();
        for (int tenant = 0; tenant < want.length; tenant++) {
            for (int what = 0; what <= 6; what++) {
                Check.due("tenant(" + tenant + ", " + what + ")", want[tenant][what], clock.tenant(tenant, what));
            }
        }
    }

    private static void swings() {
        Check.sentence("A SWING in an HOUR of a DAY: BASE twice, WEIGHTS of all who are in, 3 for each couple of them "
                + "that QUARRELS, less what is left of OIL on that DAY");
        ClockLodgers clock = lodged();
        // 56; 5 from 6 on; 5 and 8, who quarrel, from 8 on; and 3; then 12 and 8
        int[] want = {56, 56, 56, 56, 56, 56, 61, 61, 72, 75, 75, 72, 76, 76, 56, 56, 56, 56, 56, 56, 56, 56, 56, 56};
        for (int day = 0; day <= 50; day++) {
            int left = day < 36 ? 9 - day / 4 : 0;
            for (int hour = 0; hour <= 23; hour++) {
                Check.due("swing(" + hour + ", " + day + ")", want[hour] - left, clock.swing(hour, day));
            }
        }
    }

    private static void slowness() {
        Check.sentence("A right SWING is 60. SLOW from an HOUR to another one of a DAY");
        ClockLodgers clock = lodged();
        Check.due("slow(6, 13, 36)", 1 + 1 + 12 + 15 + 15 + 12 + 16 + 16, clock.slow(6, 13, 36));
        Check.due("slow(0, 5, 36)", -24, clock.slow(0, 5, 36));
        Check.due("slow(9, 9, 36)", 15, clock.slow(9, 9, 36));
        Check.due("slow(9, 9, 0)", 6, clock.slow(9, 9, 0));
        Check.due("slow(0, 23, 36)", 88 - 64, clock.slow(0, 23, 36));
        Check.due("slow(0, 23, 0)", 24 - 216, clock.slow(0, 23, 0));
    }

    private static void byWhom() {
        Check.sentence("BY WHOM: SLOW of a whole DAY less what it would be without all LEASES of a TENANT "
                + "(all others as they are).");
        ClockLodgers clock = lodged();
        int[] want = {6 * 5 + 4 * 3, 6 * 8 + 4 * 3, 2 * 3, 2 * 12};
        for (int tenant = 0; tenant < want.length; tenant++) {
            Check.due("slowBy(" + tenant + ", 0)", want[tenant], clock.slowBy(tenant, 0));
            Check.due("slowBy(" + tenant + ", 9999)", want[tenant], clock.slowBy(tenant, 9999));
        }
    }

    private static void housedPlaces() {
        Check.sentence("Where a TENANT is housed by the way that is kept: 24 by the half and FROM");
        for (int half = 0; half <= 1; half++) {
            for (int from = 0; from <= 21; from += 3) {
                ClockLodgers clock = Check.clock("tenant 1 both 1 1;tenant 5 both 1 1;rule half=" + half
                        + " and hour=" + from + ";");
                Check.due("house4(2, 0)", from <= 11 ? 5 : 0, clock.house4(2, 0));
                Check.due("housed(1)", 24 * half + from, clock.housed(1));
                Check.due("housed(0)", -1, clock.housed(0));
                clock.lease(0, half, from, from);
                Check.due("housed(1) behind a LEASE", 24 * half + from, clock.housed(1));
            }
        }
    }

    private static void cuckoo() {
        Check.sentence("How many; who is in in all of them, in some");
        ClockLodgers clock = Check.clock("tenant 5 left 1 1;tenant 5 right 1 1;tenant 10 both 1 1;");
        casesOf(clock, 60, 1, 0, 0, 0);
        // TENANT 1 right, or 0 left
        casesOf(clock, 65, 2, 0, 3, 20);
        // 2 right; 0 and 1; 2 left
        casesOf(clock, 70, 3, 0, 7, 30);
        // 0 and 2; 2 and 1
        casesOf(clock, 75, 2, 4, 7, 130);
        // all three, and each in the pause once
        casesOf(clock, 80, 3, 7, 7, 123);
        casesOf(clock, 85, 0, 0, 0, -1);
    }

    private static void casesOf(ClockLodgers clock, int swing, int... want) {
        for (int what = 0; what <= 3; what++) {
            Check.due("cuckoo(" + swing + ", " + what + ")", want[what], clock.cuckoo(swing, what));
        }
    }

    private static void visits() {
        Check.sentence("The HOUR in which a TENANT is visited by the VISITS that are kept");
        ClockLodgers clock = lodged();
        Check.due("visits(15, 9)", 12, clock.visits(15, 9));
        int[] want = {9, 11, 10, 12};
        for (int tenant = 0; tenant < want.length; tenant++) {
            Check.due("visit(" + tenant + ")", want[tenant], clock.visit(tenant));
        }
        clock.undo();
        Check.due("visit(3) behind an undo()", 12, clock.visit(3));
        Check.due("visits(2, 0)", 8, clock.visits(2, 0));
        Check.due("visit(1) of the new ones", 8, clock.visit(1));
        Check.due("visit(3) of the new ones", -1, clock.visit(3));
    }

    private static void rents() {
        Check.sentence("RENT of a TENANT for a DAY");
        int[] want = {60, 42, 5, 0};
        ClockLodgers clock = lodged();
        for (int tenant = 0; tenant < want.length; tenant++) {
            Check.due("rent(" + tenant + ")", want[tenant], clock.rent(tenant));
        }
    }

    private static void shares() {
        Check.sentence("A SUM is SHARED by RENTS");
        Check.sentence("What a TENANT has of a SUM that is SHARED.");
        // of 107 by RENTS 60, 42, 5 and 0
        int[][] want = {{107, 60, 42, 5, 0}, {0, 0, 0, 0, 0}, {1, 1, 0, 0, 0}, {2, 1, 1, 0, 0}, {10, 6, 4, 0, 0},
            {11, 6, 4, 1, 0}, {214, 120, 84, 10, 0}};
        ClockLodgers clock = lodged();
        for (int[] row : want) {
            for (int tenant = 0; tenant <= 3; tenant++) {
                Check.due("shared(" + tenant + ", " + row[0] + ")", row[1 + tenant], clock.shared(tenant, row[0]));
            }
        }
    }

    private static void twoClocks() {
        Check.sentence("the greater of how far SLOW of a whole DAY is from 0, here (his WEIGHT more for each such HOUR) "
                + "and there, is least");
        // here -48 and 10 for each HOUR here; there 24 by twice its BASE less 60, and 10 for each one there
        ClockLodgers clock = Check.clock("base 29;tenant 10 both 4 1;");
        int[][] want = {{29, 2, 28}, {30, 4, 8}, {31, 4, 48}, {28, 0, 56}, {20, 0, 440}, {60, 4, 1440}};
        for (int[] row : want) {
            Check.due("both(0, " + row[0] + ", 0, 0)", row[1], clock.both(0, row[0], 0, 0));
            Check.due("both(0, " + row[0] + ", 0, 1)", row[2], clock.both(0, row[0], 0, 1));
        }
    }

    private static void onADay() {
        Check.sentence("SHARED with another clock, on a DAY here");
        // here -24 for each part of OIL that is left, and 10 for each HOUR here; there 10 for each one of 12 that is left
        ClockLodgers clock = Check.clock("oil 10 1;tenant 10 both 12 1;");
        int[][] want = {{0, 12, 120}, {4, 12, 24}, {5, 12, 0}, {6, 11, 14}, {7, 10, 28}, {10, 6, 60}, {9999, 6, 60}};
        for (int[] row : want) {
            Check.due("both(0, 30, " + row[0] + ", 0)", row[1], clock.both(0, 30, row[0], 0));
            Check.due("both(0, 30, " + row[0] + ", 1)", row[2], clock.both(0, 30, row[0], 1));
        }
    }

    private static void wind() {
        Check.sentence("WIND by a seed: of each HOUR of DAYS 0, 1 .. a DRAW of 100");
        // the first DAY's DRAWS by seed 1
        int[] draws = {38, 58, 13, 15, 51, 27, 10, 19, 12, 86, 49, 67, 84, 60, 25, 43, 89, 83, 37, 66, 66, 78, 95, 11};
        ClockLodgers clock = Check.clock("base 30;");
        for (int chance = 0; chance <= 100; chance++) {
            int below = 0;
            for (int draw : draws) {
                below += draw < chance ? 1 : 0;
            }
            Check.due("wind(1, 1, " + chance + ")", -5 * below, clock.wind(1, 1, chance));
        }
        ClockLodgers oiled = Check.clock("oil 3 1;");
        Check.due("the OIL of each DAY", -24 * (3 + 2 + 1), oiled.wind(1, 40, 0));
    }

    private static void nothingElse() {
        Check.sentence("Nothing is promised beyond the answers and state changes described above");
        ClockLodgers clock = lodged();
        clock.house4(3, 0);
        clock.visits(3, 0);
        clock.offer(8, 8, 7);
        String state = stateOf(clock);
        clock.judge(3, 0, 20, 21);
        Check.due("behind judge", state, stateOf(clock));
        clock.slow(0, 23, 7);
        clock.slowBy(1, 7);
        clock.swing(9, 7);
        clock.cuckoo(70, 2);
        Check.due("behind swings", state, stateOf(clock));
        clock.rent(0);
        clock.shared(0, 100);
        clock.wedding(0);
        clock.birthday(0);
        clock.both(0, 30, 0, 0);
        clock.wind(1, 3, 50);
        Check.due("behind DAYS", state, stateOf(clock));
        clock.image();
        Check.due("behind image", state, stateOf(clock));
        Check.due("restore()", true, clock.restore());
        Check.due("behind restore", state, stateOf(clock));
        Check.illegal("house4(0, 0)", () -> clock.house4(0, 0));
        Check.illegal("visits(0, 0)", () -> clock.visits(0, 0));
        Check.illegal("house(1)", () -> clock.house(1));
        Check.due("behind what was thrown", state, stateOf(clock));
    }

    /** All that can be asked of a clock of four TENANTS, as a text. */
    private static String stateOf(ClockLodgers clock) {
        StringBuilder state = new StringBuilder();
        for (int what = 0; what <= 12; what++) {
            state.append(clock.count(what)).append(' ');
        }
        for (int tenant = 0; tenant < 4; tenant++) {
            for (int what = 0; what <= 6; what++) {
                state.append(clock.tenant(tenant, what)).append(' ');
            }
            state.append(clock.housed(tenant)).append(' ').append(clock.visit(tenant)).append(' ');
        }
        for (int hour = 0; hour <= 23; hour++) {
            for (int half = 0; half <= 2; half++) {
                state.append(clock.in(half, hour)).append(' ');
            }
        }
        return state.append(clock.sublet(0)).append(' ').append(clock.sublet(1)).append(' ').append(clock.fault()).toString();
    }
}
