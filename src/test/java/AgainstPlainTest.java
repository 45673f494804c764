import java.nio.charset.StandardCharsets;
import java.util.Random;

/** Runs of calls on the program and on PlainClock: all answers must be the same. The seeds are fixed. */
public final class AgainstPlainTest {
    private static final String[] VALUES = {"weight", "half", "hour", "hours", "other", "quarrels"};
    private static final String[] TOKENS = {"base", "oil", "stop", "tenant", "quarrel", "rule", "left", "right", "both",
        "or", "and", "not", "weight", "half", "hour", "hours", "other", "quarrels", "quarr", "hou", "x", "z", "a", ";", "(",
        ")", "+", "-", "*", "/", "<", "=", ">", "?", "\t", "A", "\n", " ", "0", "1", "20", "0030", "9999", "10000",
        "00001", "61", "401", "\u00e9", "\u0000", "`", "{", "/", ":"};

    private final Random random;
    private final int run;
    private ClockLodgers clock = new ClockLodgers();
    private PlainClock plain = new PlainClock();

    private AgainstPlainTest(int run) {
        this.run = run;
        random = new Random(run);
    }

    public static void main(String[] args) {
        int runs = args.length > 0 ? Integer.parseInt(args[0]) : 1500;
        int first = args.length > 1 ? Integer.parseInt(args[1]) : 0;
        for (int run = first; run < first + runs; run++) {
            new AgainstPlainTest(run).callAll();
        }
        Check.end();
    }

    private int upTo(int n) {
        return random.nextInt(n + 1);
    }

    private boolean oneOf(int n) {
        return random.nextInt(n) == 0;
    }

    private String pick(String... some) {
        return some[random.nextInt(some.length)];
    }

    private void same(String call, Check.Call ours, Check.Call plains) {
        Check.due("run " + run + ": " + call, Check.answerOf(plains), Check.answerOf(ours));
    }

    private void callAll() {
        if (oneOf(8)) {
            callSome(15);
        }
        int texts = oneOf(4) ? 12 : 1;
        for (int i = 0; i < texts; i++) {
            newHouse(oneOf(texts == 1 ? 12 : 2));
            if (oneOf(3)) {
                callSome(3);
            }
        }
        newHouse(false);
        if (oneOf(2)) {
            fillHalves();
        }
        callSome(oneOf(10) ? 350 : 120);
    }

    private void newHouse(boolean broken) {
        String text = house();
        if (broken) {
            text = broken(text);
        }
        if (text.length() > 600) {
            text = text.substring(0, 600);
        }
        byte[] bytes = text.getBytes(StandardCharsets.ISO_8859_1);
        for (int i = 0; i < bytes.length; i += 20) {
            int[] w = new int[5];
            for (int j = 0; j < 20; j++) {
                w[j / 4] = w[j / 4] << 8 | (i + j < bytes.length ? bytes[i + j] & 255 : 32);
            }
            same("feed of: " + text, () -> clock.feed(w[0], w[1], w[2], w[3], w[4]), () -> plain.feed(w));
        }
        int n = oneOf(15) ? upTo(bytes.length + 30) - 5 : bytes.length;
        same("house(" + n + ") of: " + text, () -> clock.house(n), () -> plain.house(n));
        same("fault() of: " + text, () -> clock.fault(), () -> plain.fault());
        for (int what = -1; what <= 13; what++) {
            int w = what;
            same("count(" + w + ") of: " + text, () -> clock.count(w), () -> plain.count(w));
        }
    }

    private String house() {
        StringBuilder s = new StringBuilder();
        if (!oneOf(4)) {
            s.append("base ").append(oneOf(2) ? 25 + upTo(8) : 20 + upTo(40)).append(';');
        }
        if (!oneOf(3)) {
            s.append("oil ").append(upTo(30)).append(' ').append(oneOf(2) ? 1 + upTo(5) : 1 + upTo(98)).append(pick(";", " ; "));
        }
        if (!oneOf(3)) {
            s.append("stop ").append(oneOf(2) ? 60 + upTo(60) : 41 + upTo(359)).append(';');
        }
        int tenants = oneOf(15) ? 7 : oneOf(10) ? upTo(2) : 2 + upTo(4);
        for (int t = 0; t < tenants; t++) {
            s.append("tenant ").append(upTo(20)).append(pick(" left ", " right ", " both ", "both", " both "));
            s.append(1 + upTo(oneOf(2) ? 11 : 4)).append(' ').append(upTo(99)).append(';');
        }
        int quarrels = oneOf(10) ? 9 : upTo(4);
        for (int q = 0; q < quarrels && tenants > 1; q++) {
            int a = upTo(tenants - 1);
            int b = upTo(tenants - 1);
            if (a != b && s.indexOf("quarrel " + a + " " + b + ";") < 0 && s.indexOf("quarrel " + b + " " + a + ";") < 0) {
                s.append("quarrel ").append(a).append(' ').append(b).append(';');
            }
        }
        int rules = oneOf(20) ? 5 : oneOf(2) ? upTo(2) : 0;
        for (int r = 0; r < rules; r++) {
            s.append("rule ").append(rule()).append(';');
        }
        return s.toString();
    }

    private String rule() {
        switch (upTo(8)) {
            case 0: return "weight+other<" + (10 + upTo(25));
            case 1: return "quarrels=0 or hour<" + upTo(23);
            case 2: return "not (half=2 and hours<" + upTo(4) + ")";
            case 3: return "0<other or hour<" + upTo(12) + " or 14<hour";
            case 4: return "not half=1 or hours<" + (2 + upTo(8));
            case 5: return expression(0) + " or hour<" + upTo(20);
            case 6: return "hour*hours-other<" + upTo(120);
            case 7: return "other=" + upTo(9) + " or " + expression(1);
            default: return expression(0);
        }
    }

    private String expression(int depth) {
        StringBuilder s = new StringBuilder(conjunction(depth));
        while (oneOf(4)) {
            s.append(" or ").append(conjunction(depth));
        }
        return s.toString();
    }

    private String conjunction(int depth) {
        StringBuilder s = new StringBuilder(negation(depth));
        while (oneOf(5)) {
            s.append(" and ").append(negation(depth));
        }
        return s.toString();
    }

    private String negation(int depth) {
        StringBuilder s = new StringBuilder();
        int nots = oneOf(60) ? 5 + upTo(2) : oneOf(6) ? 1 + upTo(1) : 0;
        for (int i = 0; i < nots; i++) {
            s.append("not ");
        }
        s.append(sum(depth));
        if (oneOf(2)) {
            s.append(pick("<", "=", " < ")).append(sum(depth));
        }
        return s.toString();
    }

    private String sum(int depth) {
        StringBuilder s = new StringBuilder(part(depth));
        while (oneOf(3)) {
            s.append(pick("+", "-", "*", "/", " - ", " /\n")).append(part(depth));
        }
        return s.toString();
    }

    private String part(int depth) {
        if (depth < 8 && oneOf(6) || depth > 2 && depth < 7 && oneOf(2)) {
            return "(" + expression(depth + 1) + ")";
        }
        return oneOf(2) ? Integer.toString(oneOf(3) ? upTo(9999) : upTo(20)) : pick(VALUES);
    }

    private String broken(String text) {
        StringBuilder s = new StringBuilder(text);
        int faults = 1 + upTo(1);
        for (int i = 0; i < faults; i++) {
            int at = upTo(s.length());
            if (oneOf(3)) {
                at = s.indexOf(";", at) + 1;
            }
            switch (upTo(5)) {
                case 0: s.insert(at, pick(TOKENS)); break;
                case 1: s.insert(at, " " + pick(TOKENS) + " "); break;
                case 2: s.insert(at, "quarrel " + upTo(5) + " " + upTo(5) + ";"); break;
                case 3: s.insert(at, pick("base 30;", "oil 4 3;", "stop 99;", "rule 1;", "rule weight not;", "rule (" + rule() + ");",
                        "rule 1<not 1;", "rule 1+and;", "rule 1<2=3;", "rule (((((( 1", "rule (((((( x", "rule (((((( )")); break;
                case 4: s.delete(at, Math.min(s.length(), at + 1 + upTo(6))); break;
                default: s.setLength(at); break;
            }
        }
        return s.toString();
    }

    private int anyTenant() {
        return oneOf(25) ? upTo(9) - 2 : upTo(Math.max(0, plain.count(4) - 1));
    }

    private int anyHour() {
        return oneOf(40) ? (oneOf(2) ? -1 : 24) : upTo(23);
    }

    private int anyDay() {
        return oneOf(40) ? (oneOf(2) ? -1 : 10000) : oneOf(2) ? upTo(60) : oneOf(3) ? 9900 + upTo(99) : upTo(9999);
    }

    private int anyWhat(int most) {
        return oneOf(30) ? (oneOf(2) ? -1 : most + 1) : upTo(most);
    }

    private int manyTenants(int mostBits) {
        int bits = oneOf(40) ? random.nextInt() : upTo(63) & (1 << plain.count(4)) - 1;
        while (Integer.bitCount(bits) > mostBits) {
            bits &= bits - 1;
        }
        return bits;
    }

    private void callSome(int calls) {
        for (int i = 0; i < calls; i++) {
            int kind = upTo(99);
            if (kind < 30) {
                callLease(i);
            } else if (kind < 55) {
                callClock(i);
            } else if (kind < 80) {
                callFound(i);
            } else {
                callHouse(i);
            }
        }
    }

    /** So that pauses, offers and the limit of leases are often reached. */
    private void fillHalves() {
        for (int half = 0; half < 2; half++) {
            int length = 1 + upTo(9);
            for (int from = 0; from + length <= 24; from += length) {
                tryLease(anyTenant(), half, from, from + length - 1, "filling");
            }
        }
        for (int i = upTo(6); i > 0; i--) {
            int from = upTo(23);
            int to = Math.min(23, from + upTo(3));
            same("offer", () -> clock.offer(from, to, 9), () -> plain.offer(from, to, 9));
        }
    }

    private void tryLease(int tenant, int half, int from, int to, String when) {
        String args = "(" + tenant + ", " + half + ", " + from + ", " + to + ") at " + when;
        same("judge" + args, () -> clock.judge(tenant, half, from, to), () -> plain.judge(tenant, half, from, to));
        same("lease" + args, () -> clock.lease(tenant, half, from, to), () -> plain.lease(tenant, half, from, to));
    }

    private void callLease(int i) {
        int tenant = anyTenant();
        int half = oneOf(40) ? 3 : oneOf(60) ? -1 : oneOf(3) ? 2 : upTo(1);
        int from = anyHour();
        int to = oneOf(20) ? anyHour() : Math.min(oneOf(9) ? 24 : 23, from + upTo(oneOf(3) ? 9 : 4));
        tryLease(tenant, half, from, to, Integer.toString(i));
        if (oneOf(15)) {
            same("undo() at " + i, () -> clock.undo(), () -> plain.undo());
        }
        if (oneOf(30)) {
            clock.image();
            plain.image();
        }
        if (oneOf(30)) {
            same("restore() at " + i, () -> clock.restore() ? 1 : 0, () -> plain.restore() ? 1 : 0);
        }
    }

    private void callClock(int i) {
        int hour = anyHour();
        int other = anyHour();
        int day = anyDay();
        int tenant = anyTenant();
        String at = " at " + i;
        switch (upTo(6)) {
            case 0: same("swing(" + hour + ", " + day + ")" + at, () -> clock.swing(hour, day), () -> plain.swing(hour, day)); break;
            case 1: same("slow(" + hour + ", " + other + ", " + day + ")" + at, () -> clock.slow(hour, other, day), () -> plain.slow(hour, other, day)); break;
            case 2: same("slowBy(" + tenant + ", " + day + ")" + at, () -> clock.slowBy(tenant, day), () -> plain.slowBy(tenant, day)); break;
            case 3: same("wedding(" + day + ")" + at, () -> clock.wedding(day), () -> plain.wedding(day)); break;
            case 4: same("birthday(" + day + ")" + at, () -> clock.birthday(day), () -> plain.birthday(day)); break;
            case 5: {
                int base = oneOf(20) ? (oneOf(2) ? 19 : 61) : oneOf(2) ? 25 + upTo(8) : 20 + upTo(40);
                int what = anyWhat(1);
                same("both(" + tenant + ", " + base + ", " + day + ", " + what + ")" + at,
                        () -> clock.both(tenant, base, day, what), () -> plain.both(tenant, base, day, what));
                break;
            }
            default: {
                int seed = random.nextInt();
                int days = oneOf(20) ? (oneOf(2) ? -1 : 41) : upTo(40);
                int chance = oneOf(20) ? (oneOf(2) ? -1 : 101) : upTo(100);
                same("wind(" + seed + ", " + days + ", " + chance + ")" + at,
                        () -> clock.wind(seed, days, chance), () -> plain.wind(seed, days, chance));
                break;
            }
        }
    }

    private void callFound(int i) {
        int tenant = anyTenant();
        String at = " at " + i;
        switch (upTo(6)) {
            case 0: {
                int bits = manyTenants(oneOf(12) ? 4 : oneOf(60) ? 6 : oneOf(3) ? 3 : 2);
                int day = anyDay();
                same("house4(" + bits + ", " + day + ")" + at, () -> clock.house4(bits, day), () -> plain.house4(bits, day));
                for (int t = 0; t < 6; t++) {
                    int who = t;
                    same("housed(" + who + ")" + at, () -> clock.housed(who), () -> plain.housed(who));
                }
                break;
            }
            case 1: same("housed(" + tenant + ")" + at, () -> clock.housed(tenant), () -> plain.housed(tenant)); break;
            case 2: {
                int bits = manyTenants(6);
                int hour = oneOf(2) ? 0 : anyHour();
                same("visits(" + bits + ", " + hour + ")" + at, () -> clock.visits(bits, hour), () -> plain.visits(bits, hour));
                for (int t = 0; t < 6; t++) {
                    int who = t;
                    same("visit(" + who + ")" + at, () -> clock.visit(who), () -> plain.visit(who));
                }
                break;
            }
            case 3: same("visit(" + tenant + ")" + at, () -> clock.visit(tenant), () -> plain.visit(tenant)); break;
            case 4: {
                int swing = 2 * plain.count(0) - plain.count(1) + upTo(40);
                for (int what = 0; what < 4; what++) {
                    int w = what;
                    same("cuckoo(" + swing + ", " + w + ")" + at, () -> clock.cuckoo(swing, w), () -> plain.cuckoo(swing, w));
                }
                break;
            }
            case 5: {
                int swing = oneOf(5) ? random.nextInt() : 20 + upTo(160);
                int what = anyWhat(3);
                same("cuckoo(" + swing + ", " + what + ")" + at, () -> clock.cuckoo(swing, what), () -> plain.cuckoo(swing, what));
                break;
            }
            default: {
                int sum = oneOf(20) ? (oneOf(2) ? -1 : 10000) : upTo(9999);
                same("shared(" + tenant + ", " + sum + ")" + at, () -> clock.shared(tenant, sum), () -> plain.shared(tenant, sum));
                same("rent(" + tenant + ")" + at, () -> clock.rent(tenant), () -> plain.rent(tenant));
                break;
            }
        }
    }

    private void callHouse(int i) {
        int tenant = anyTenant();
        int hour = anyHour();
        String at = " at " + i;
        switch (upTo(5)) {
            case 0: {
                int what = anyWhat(12);
                same("count(" + what + ")" + at, () -> clock.count(what), () -> plain.count(what));
                break;
            }
            case 1: {
                int what = anyWhat(6);
                same("tenant(" + tenant + ", " + what + ")" + at, () -> clock.tenant(tenant, what), () -> plain.tenant(tenant, what));
                break;
            }
            case 2: {
                int half = anyWhat(2);
                same("in(" + half + ", " + hour + ")" + at, () -> clock.in(half, hour), () -> plain.in(half, hour));
                break;
            }
            case 3: {
                int to = oneOf(10) ? anyHour() : Math.min(23, hour + upTo(3));
                int coins = oneOf(20) ? (oneOf(2) ? -1 : 100) : oneOf(3) ? upTo(3) : upTo(99);
                same("offer(" + hour + ", " + to + ", " + coins + ")" + at, () -> clock.offer(hour, to, coins), () -> plain.offer(hour, to, coins));
                break;
            }
            case 4: {
                int what = anyWhat(1);
                same("sublet(" + what + ")" + at, () -> clock.sublet(what), () -> plain.sublet(what));
                break;
            }
            default: {
                int n = upTo(40) - 20;
                if (n > 0 || oneOf(2)) {
                    same("fault()" + at, () -> clock.fault(), () -> plain.fault());
                } else if (n < 0 || oneOf(6)) {
                    same("house(" + n + ")" + at, () -> clock.house(n), () -> plain.house(n));
                }
                break;
            }
        }
    }
}
