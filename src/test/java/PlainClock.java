import java.util.ArrayList;
import java.util.List;
import java.util.NoSuchElementException;

/**
 * The document told once more in the plainest way, by trying all cases, for AgainstPlainTest.
 * It shares no line with the program: a recursive reader, trees for rules, lists that are copied.
 */
final class PlainClock {
    static final class Fault extends RuntimeException {
        private static final long serialVersionUID = 1L;
        final int kind;
        final int place;

        Fault(int kind, int place) {
            this.kind = kind;
            this.place = place;
        }
    }

    record Tenant(int weight, int breath, int stay, int rent) {
    }

    record Lease(int tenant, int half, int from, int to) {
    }

    record Offer(int from, int to, int coins) {
    }

    /** A rule's tree: an operator with its parts, a VALUE by its word, or a number. */
    record Tree(String what, int number, Tree a, Tree b) {
    }

    private final ArrayList<Integer> tape = new ArrayList<>();
    private int base = 30;
    private int oil = 0;
    private int days = 7;
    private int stop = 200;
    private List<Tenant> tenants = new ArrayList<>();
    private List<int[]> quarrels = new ArrayList<>();
    private List<Tree> rules = new ArrayList<>();
    private List<Lease> leases = new ArrayList<>();
    private List<Offer> offers = new ArrayList<>();
    private List<Lease> imageLeases;
    private List<Offer> imageOffers;
    private int[] housed;
    private int[] visited;
    private int place = -1;
    private final int[] status = new int[3];

    // ---- the tape and the text

    int feed(int... words) {
        if (tape.size() + 20 > 600) {
            return -1;
        }
        for (int word : words) {
            for (int i = 3; i >= 0; i--) {
                tape.add(word >> 8 * i & 255);
            }
        }
        return tape.size();
    }

    int house(int n) {
        if (n < 0 || n > tape.size()) {
            throw new IllegalArgumentException();
        }
        StringBuilder text = new StringBuilder();
        for (int i = 0; i < n; i++) {
            text.append((char) (int) tape.get(i));
        }
        tape.clear();
        try {
            new Reader(text.toString()).read(this);
            place = -1;
            return 0;
        } catch (Fault f) {
            place = f.place;
            status[0]++;
            return f.kind;
        }
    }

    private static final class Reader {
        final String text;
        int at = 0;
        String token;
        int start;
        int base = -1;
        int oil = -1;
        int days = 7;
        int stop = -1;
        final List<Tenant> tenants = new ArrayList<>();
        final List<int[]> quarrels = new ArrayList<>();
        final List<Tree> rules = new ArrayList<>();

        Reader(String text) {
            this.text = text;
            next();
        }

        void next() {
            while (at < text.length() && (text.charAt(at) == 32 || text.charAt(at) == 10)) {
                at++;
            }
            start = at;
            if (at == text.length()) {
                token = "";
                return;
            }
            String rest = text.substring(at);
            java.util.regex.Matcher m = java.util.regex.Pattern.compile("^([a-z]+|[0-9]+|[;()+\\-*/<=])", java.util.regex.Pattern.DOTALL).matcher(rest);
            token = m.find() ? m.group(1) : "?";
            at += token.length();
        }

        Fault fault(int kind) {
            return new Fault(kind, start);
        }

        boolean isNumber() {
            return token.matches("[0-9]+");
        }

        boolean isWord() {
            return token.matches("[a-z]+");
        }

        int number(int low, int high) {
            if (!isNumber()) {
                throw fault(1);
            }
            if (token.length() > 4 || Integer.parseInt(token) < low || Integer.parseInt(token) > high) {
                throw fault(2);
            }
            int n = Integer.parseInt(token);
            next();
            return n;
        }

        int tenant(int notThis) {
            if (!isNumber()) {
                throw fault(1);
            }
            if (token.length() > 4) {
                throw fault(2);
            }
            int n = Integer.parseInt(token);
            if (n >= tenants.size()) {
                throw fault(3);
            }
            if (notThis >= 0) {
                boolean told = n == notThis;
                for (int[] q : quarrels) {
                    told |= q[0] == n && q[1] == notThis || q[1] == n && q[0] == notThis;
                }
                if (told) {
                    throw fault(4);
                }
            }
            next();
            return n;
        }

        void read(PlainClock to) {
            while (!token.isEmpty()) {
                line();
                if (!token.equals(";")) {
                    throw fault(1);
                }
                next();
            }
            to.base = base < 0 ? 30 : base;
            to.oil = Math.max(oil, 0);
            to.days = days;
            to.stop = stop < 0 ? 200 : stop;
            to.tenants = tenants;
            to.quarrels = quarrels;
            to.rules = rules;
            to.leases = new ArrayList<>();
            to.offers = new ArrayList<>();
            to.imageLeases = null;
            to.imageOffers = null;
            to.housed = null;
            to.visited = null;
        }

        void line() {
            switch (token) {
                case "base" -> {
                    again(base);
                    next();
                    base = number(20, 60);
                }
                case "oil" -> {
                    again(oil);
                    next();
                    oil = number(0, 30);
                    days = number(1, 99);
                }
                case "stop" -> {
                    again(stop);
                    next();
                    stop = number(41, 400);
                }
                case "tenant" -> {
                    full(tenants.size(), 6);
                    next();
                    int weight = number(0, 20);
                    int breath = List.of("left", "right", "both").indexOf(token);
                    if (breath < 0) {
                        throw fault(1);
                    }
                    next();
                    int stay = number(1, 12);
                    int rent = number(0, 99);
                    tenants.add(new Tenant(weight, breath, stay, rent));
                }
                case "quarrel" -> {
                    full(quarrels.size(), 8);
                    next();
                    int a = tenant(-1);
                    int b = tenant(a);
                    quarrels.add(new int[] {a, b});
                }
                case "rule" -> {
                    full(rules.size(), 4);
                    next();
                    rules.add(expr(0));
                }
                default -> throw fault(1);
            }
        }

        void again(int told) {
            if (told >= 0) {
                throw fault(5);
            }
        }

        void full(int size, int most) {
            if (size == most) {
                throw fault(2);
            }
        }

        Tree expr(int within) {
            if (within == 6 && (isNumber() || isWord() || token.equals("("))) {
                throw fault(2);
            }
            Tree t = and(within);
            while (token.equals("or")) {
                next();
                t = new Tree("or", 0, t, and(within));
            }
            return t;
        }

        Tree and(int within) {
            Tree t = not(within, 0);
            while (token.equals("and")) {
                next();
                t = new Tree("and", 0, t, not(within, 0));
            }
            return t;
        }

        Tree not(int within, int nots) {
            if (token.equals("not")) {
                if (nots == 6) {
                    throw fault(2);
                }
                next();
                return new Tree("not", 0, not(within, nots + 1), null);
            }
            Tree t = sum(within);
            if (token.equals("<") || token.equals("=")) {
                String op = token;
                next();
                t = new Tree(op, 0, t, sum(within));
            }
            return t;
        }

        Tree sum(int within) {
            Tree t = product(within);
            while (token.equals("+") || token.equals("-")) {
                String op = token;
                next();
                t = new Tree(op, 0, t, product(within));
            }
            return t;
        }

        Tree product(int within) {
            Tree t = part(within);
            while (token.equals("*") || token.equals("/")) {
                String op = token;
                next();
                t = new Tree(op, 0, t, part(within));
            }
            return t;
        }

        Tree part(int within) {
            if (isNumber()) {
                return new Tree("number", number(0, 9999), null, null);
            }
            if (isWord()) {
                if (!List.of("weight", "half", "hour", "hours", "other", "quarrels").contains(token)) {
                    throw fault(3);
                }
                Tree t = new Tree(token, 0, null, null);
                next();
                return t;
            }
            if (!token.equals("(")) {
                throw fault(1);
            }
            next();
            Tree t = expr(within + 1);
            if (!token.equals(")")) {
                throw fault(1);
            }
            next();
            return t;
        }
    }

    // ---- rules

    private static Lease at(List<Lease> leases, int half, int hour) {
        for (Lease l : leases) {
            if (l.half == half && l.from <= hour && hour <= l.to) {
                return l;
            }
        }
        return null;
    }

    private int weightAt(List<Lease> leases, int half, int hour) {
        Lease l = at(leases, half, hour);
        return l == null ? 0 : tenants.get(l.tenant).weight;
    }

    private boolean foes(int a, int b) {
        for (int[] q : quarrels) {
            if (q[0] == a && q[1] == b || q[1] == a && q[0] == b) {
                return true;
            }
        }
        return false;
    }

    private int value(Tree t, List<Lease> all, Lease l, int hour) {
        switch (t.what) {
            case "number": return t.number;
            case "weight": return tenants.get(l.tenant).weight;
            case "half": return l.half;
            case "hour": return hour;
            case "hours": return l.to - l.from + 1;
            case "other": return l.half == 2 ? weightAt(all, 0, hour) + weightAt(all, 1, hour) : weightAt(all, 1 - l.half, hour);
            case "quarrels": {
                int n = 0;
                for (int half = 0; half < 3; half++) {
                    Lease other = at(all, half, hour);
                    n += other != null && foes(l.tenant, other.tenant) ? 1 : 0;
                }
                return n;
            }
            default: break;
        }
        int a = value(t.a, all, l, hour);
        if (t.what.equals("not")) {
            return a == 0 ? 1 : 0;
        }
        int b = value(t.b, all, l, hour);
        switch (t.what) {
            case "or": return a != 0 | b != 0 ? 1 : 0;
            case "and": return a != 0 & b != 0 ? 1 : 0;
            case "<": return a < b ? 1 : 0;
            case "=": return a == b ? 1 : 0;
            case "+": return a + b;
            case "-": return a - b;
            case "*": return a * b;
            default: return b == 0 ? 0 : a / b;
        }
    }

    private boolean allRulesHold(List<Lease> all) {
        for (Lease l : all) {
            for (int hour = l.from; hour <= l.to; hour++) {
                for (Tree rule : rules) {
                    if (value(rule, all, l, hour) == 0) {
                        return false;
                    }
                }
            }
        }
        return true;
    }

    // ---- the calls

    int fault() {
        return place;
    }

    int count(int what) {
        int[] all = {base, oil, days, stop, tenants.size(), quarrels.size(), rules.size(), leases.size(), offers.size(),
            tape.size(), status[0], status[1], status[2]};
        if (what < 0 || what > 12) {
            throw new NoSuchElementException();
        }
        return all[what];
    }

    private void needTenant(int t) {
        if (t < 0 || t >= tenants.size()) {
            throw new NoSuchElementException();
        }
    }

    private static void needHour(int h) {
        if (h < 0 || h > 23) {
            throw new NoSuchElementException();
        }
    }

    private static void need(boolean holds) {
        if (!holds) {
            throw new IllegalArgumentException();
        }
    }

    int tenant(int t, int what) {
        needTenant(t);
        if (what < 0 || what > 6) {
            throw new NoSuchElementException();
        }
        Tenant x = tenants.get(t);
        int halves = 0;
        int pauses = 0;
        for (int h = 0; h < 24; h++) {
            for (int half = 0; half < 3; half++) {
                Lease l = at(leases, half, h);
                if (l != null && l.tenant == t) {
                    halves += half < 2 ? 1 : 0;
                    pauses += half == 2 ? 1 : 0;
                }
            }
        }
        int bits = 0;
        for (int i = 0; i < 6; i++) {
            bits |= foes(t, i) ? 1 << i : 0;
        }
        return new int[] {x.weight, x.breath, x.stay, x.rent, halves, pauses, bits}[what];
    }

    int judge(int t, int half, int from, int to) {
        if (t < 0 || t >= tenants.size() || half < 0 || half > 2 || from < 0 || from > 23 || to < 0 || to > 23 || to < from) {
            return 1;
        }
        int breath = tenants.get(t).breath;
        if (half == 0 && breath == 1 || half == 1 && breath == 0) {
            return 2;
        }
        for (int h = from; h <= to; h++) {
            if (at(leases, half, h) != null) {
                return 3;
            }
        }
        for (int h = from; h <= to; h++) {
            for (int other = 0; other < 3; other++) {
                Lease l = at(leases, other, h);
                if (l != null && l.tenant == t) {
                    return 4;
                }
            }
        }
        for (int h = from; h <= to && half == 2; h++) {
            if (at(leases, 0, h) == null || at(leases, 1, h) == null) {
                return 5;
            }
        }
        List<Lease> were = new ArrayList<>(leases);
        were.add(new Lease(t, half, from, to));
        if (!allRulesHold(were)) {
            return 6;
        }
        return leases.size() == 12 ? 7 : 0;
    }

    int lease(int t, int half, int from, int to) {
        int trouble = judge(t, half, from, to);
        if (trouble == 0) {
            leases.add(new Lease(t, half, from, to));
        } else {
            status[1]++;
        }
        return trouble;
    }

    int undo() {
        if (leases.isEmpty()) {
            return -1;
        }
        leases.remove(leases.size() - 1);
        return leases.size();
    }

    int in(int half, int hour) {
        if (half < 0 || half > 2) {
            throw new NoSuchElementException();
        }
        needHour(hour);
        Lease l = at(leases, half, hour);
        return l == null ? -1 : l.tenant;
    }

    private int swingBy(List<Lease> all, int hour, int day) {
        List<Integer> in = new ArrayList<>();
        for (int half = 0; half < 3; half++) {
            Lease l = at(all, half, hour);
            if (l != null) {
                in.add(l.tenant);
            }
        }
        return swingBy(in, day);
    }

    private int swingBy(List<Integer> in, int day) {
        int swing = 2 * base - Math.max(0, oil - day / days);
        for (int i = 0; i < in.size(); i++) {
            swing += tenants.get(in.get(i)).weight;
            for (int j = 0; j < i; j++) {
                swing += foes(in.get(i), in.get(j)) ? 3 : 0;
            }
        }
        return Math.max(2, swing);
    }

    private int slowBy(List<Lease> all, int from, int to, int day) {
        int sum = 0;
        for (int h = from; h <= to; h++) {
            sum += swingBy(all, h, day) - 60;
        }
        return sum;
    }

    int swing(int hour, int day) {
        needHour(hour);
        need(day >= 0 && day <= 9999);
        return swingBy(leases, hour, day);
    }

    int slow(int from, int to, int day) {
        needHour(from);
        needHour(to);
        need(day >= 0 && day <= 9999 && to >= from);
        return slowBy(leases, from, to, day);
    }

    int slowBy(int t, int day) {
        needTenant(t);
        need(day >= 0 && day <= 9999);
        List<Lease> without = new ArrayList<>(leases);
        without.removeIf(l -> l.tenant == t);
        return slowBy(leases, 0, 23, day) - slowBy(without, 0, 23, day);
    }

    private int nearest;
    private int[] nearestRow;

    int house4(int bits, int day) {
        need(day >= 0 && day <= 9999);
        need(bits > 0 && bits < 1 << tenants.size() && Integer.bitCount(bits) <= 4);
        nearest = -1;
        nearestRow = null;
        int[] row = new int[6];
        java.util.Arrays.fill(row, -1);
        houseFrom(bits, 0, new ArrayList<>(), row, day);
        if (nearestRow != null) {
            housed = nearestRow;
        }
        return nearest;
    }

    private void houseFrom(int bits, int t, List<Lease> ways, int[] row, int day) {
        if (t == 6) {
            int far = Math.abs(slowBy(ways, 0, 11, day));
            if ((nearest < 0 || far < nearest) && allRulesHold(ways)) {
                nearest = far;
                nearestRow = row.clone();
            }
            return;
        }
        if ((bits & 1 << t) == 0) {
            houseFrom(bits, t + 1, ways, row, day);
            return;
        }
        Tenant x = tenants.get(t);
        for (int half = 0; half < 2; half++) {
            for (int from = 0; from < 24; from += 3) {
                int to = from + x.stay - 1;
                boolean may = x.breath == 2 || x.breath == half;
                for (int h = from; h <= to; h++) {
                    may &= h <= 23 && at(ways, half, h) == null;
                }
                if (may) {
                    ways.add(new Lease(t, half, from, to));
                    row[t] = 24 * half + from;
                    houseFrom(bits, t + 1, ways, row, day);
                    row[t] = -1;
                    ways.remove(ways.size() - 1);
                }
            }
        }
    }

    int housed(int t) {
        needTenant(t);
        if (housed == null) {
            throw new NoSuchElementException();
        }
        return housed[t];
    }

    int cuckoo(int swing, int what) {
        if (what < 0 || what > 3) {
            throw new NoSuchElementException();
        }
        int n = 0;
        int all = 63;
        int some = 0;
        int first = -1;
        for (int code = 0; code < 777; code++) {
            int left = code / 100 - 1;
            int right = code / 10 % 10 - 1;
            int pause = code % 10 - 1;
            int k = tenants.size();
            boolean may = left < k && right < k && pause < k;
            may &= left < 0 || left != right && left != pause;
            may &= right < 0 || right != pause;
            may &= pause < 0 || left >= 0 && right >= 0;
            if (!may || left >= 0 && tenants.get(left).breath == 1 || right >= 0 && tenants.get(right).breath == 0) {
                continue;
            }
            List<Integer> in = new ArrayList<>();
            int bits = 0;
            for (int t : new int[] {left, right, pause}) {
                if (t >= 0) {
                    in.add(t);
                    bits |= 1 << t;
                }
            }
            if (swingBy(in, 0) == swing) {
                n++;
                all &= bits;
                some |= bits;
                first = first < 0 ? code : first;
            }
        }
        return new int[] {n, n == 0 ? 0 : all, some, first}[what];
    }

    private int[] bestVisits;
    private int bestLast;

    int visits(int bits, int hour) {
        needHour(hour);
        need(bits > 0 && bits < 1 << tenants.size());
        bestVisits = null;
        bestLast = 24;
        int[] row = new int[6];
        java.util.Arrays.fill(row, -1);
        visitFrom(bits, 0, hour, row, 0, -1);
        if (bestVisits == null) {
            return -1;
        }
        visited = bestVisits;
        return bestLast;
    }

    private void visitFrom(int bits, int t, int from, int[] row, int used, int last) {
        if (last >= bestLast) {
            return;
        }
        if (t == 6) {
            bestLast = last;
            bestVisits = row.clone();
            return;
        }
        if ((bits & 1 << t) == 0) {
            visitFrom(bits, t + 1, from, row, used, last);
            return;
        }
        for (int h = from; h < 24; h++) {
            boolean in = false;
            for (int half = 0; half < 3; half++) {
                in |= in(half, h) == t;
            }
            if (in && (used & 1 << h) == 0) {
                row[t] = h;
                visitFrom(bits, t + 1, from, row, used | 1 << h, Math.max(last, h));
                row[t] = -1;
            }
        }
    }

    int visit(int t) {
        needTenant(t);
        if (visited == null) {
            throw new NoSuchElementException();
        }
        return visited[t];
    }

    int rent(int t) {
        needTenant(t);
        int rent = tenants.get(t).rent;
        return rent * tenant(t, 4) + (int) Math.ceil(rent * tenant(t, 5) / 2.0);
    }

    int shared(int t, int sum) {
        needTenant(t);
        need(sum >= 0 && sum <= 9999);
        int k = tenants.size();
        int all = 0;
        for (int i = 0; i < k; i++) {
            all += rent(i);
        }
        if (all == 0) {
            return 0;
        }
        int[] has = new int[k];
        int[] rest = new int[k];
        int left = sum;
        for (int i = 0; i < k; i++) {
            has[i] = sum * rent(i) / all;
            rest[i] = sum * rent(i) % all;
            left -= has[i];
        }
        while (left > 0) {
            int most = 0;
            for (int i = 1; i < k; i++) {
                most = rest[i] > rest[most] ? i : most;
            }
            has[most]++;
            rest[most] = -1;
            left--;
        }
        return has[t];
    }

    int offer(int from, int to, int coins) {
        if (offers.size() == 8 || from < 0 || from > 23 || to < 0 || to > 23 || to < from || coins < 0 || coins > 99) {
            status[2]++;
            return -1;
        }
        offers.add(new Offer(from, to, coins));
        return offers.size();
    }

    int sublet(int what) {
        if (what < 0 || what > 1) {
            throw new NoSuchElementException();
        }
        int best = 0;
        int set = 0;
        for (int bits = 0; bits < 1 << offers.size(); bits++) {
            int[] used = new int[24];
            int coins = 0;
            boolean may = true;
            for (int i = 0; i < offers.size(); i++) {
                if ((bits & 1 << i) != 0) {
                    Offer o = offers.get(i);
                    coins += o.coins;
                    for (int h = o.from; h <= o.to; h++) {
                        used[h]++;
                        may &= used[h] == 1 && in(0, h) >= 0 && in(1, h) >= 0 && in(2, h) < 0;
                    }
                }
            }
            if (may && coins > best) {
                best = coins;
                set = bits;
            }
        }
        return what == 0 ? best : set;
    }

    int wedding(int day) {
        need(day >= 0 && day <= 9999);
        for (int d = day; d <= 9999; d++) {
            if (d % 7 == 6) {
                for (int h = 0; h < 24; h++) {
                    if (swing(h, d) > stop) {
                        return d;
                    }
                }
            }
        }
        return -1;
    }

    int birthday(int day) {
        need(day >= 0 && day <= 9999);
        int sum = 0;
        int without = slow(0, 23, 9999) + 24 * Math.max(0, oil - 9999 / days);
        for (int d = day; d <= 9999; d++) {
            sum += without - 24 * Math.max(0, oil - d / days);
            if (sum >= 1440) {
                return d - day + 1;
            }
            if (sum <= -1440) {
                return -(d - day + 1);
            }
        }
        return 0;
    }

    int both(int t, int otherBase, int day, int what) {
        needTenant(t);
        if (what < 0 || what > 1) {
            throw new NoSuchElementException();
        }
        need(day >= 0 && day <= 9999 && otherBase >= 20 && otherBase <= 60);
        Tenant x = tenants.get(t);
        int best = -1;
        int least = 0;
        for (int k = 0; k <= x.stay; k++) {
            int here = slow(0, 23, day) + k * x.weight;
            int there = 0;
            for (int h = 0; h < 24; h++) {
                there += 2 * otherBase + (h < x.stay - k ? x.weight : 0) - 60;
            }
            int far = Math.max(Math.abs(here), Math.abs(there));
            if (best < 0 || far < least) {
                best = k;
                least = far;
            }
        }
        return what == 0 ? best : least;
    }

    int wind(int seed, int howMany, int chance) {
        need(howMany >= 0 && howMany <= 40 && chance >= 0 && chance <= 100);
        int sum = 0;
        int s = seed;
        for (int d = 0; d < howMany; d++) {
            for (int h = 0; h < 24; h++) {
                s = s * 1103515245 + 12345;
                int draw = (s >> 16 & 0x7fff) % 100;
                sum += swing(h, d) - 60 - (draw < chance ? 5 : 0);
            }
        }
        return sum;
    }

    void image() {
        imageLeases = new ArrayList<>(leases);
        imageOffers = new ArrayList<>(offers);
    }

    boolean restore() {
        if (imageLeases == null) {
            return false;
        }
        leases = new ArrayList<>(imageLeases);
        offers = new ArrayList<>(imageOffers);
        return true;
    }
}
