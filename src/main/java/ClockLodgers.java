import java.util.Arrays;
import java.util.NoSuchElementException;

/** A tall clock that is let as rooms by its half swings; ../shared/DOC.md says what each call does. */
public final class ClockLodgers {
    public static final int NONE = -1;

    private static final int HOURS = 24;
    private static final int LAST_HOUR = 23;
    private static final int LAST_DAY = 9999;
    private static final int RIGHT_SWING = 60;
    private static final int LEFT = 0;
    private static final int RIGHT = 1;
    private static final int PAUSE = 2;
    private static final int HALVES = 3;
    private static final int BOTH_SIDES = 2;
    private static final int MOST_BYTES = 600;
    private static final int MOST_TENANTS = 6;
    private static final int MOST_QUARRELS = 8;
    private static final int MOST_RULES = 4;
    private static final int MOST_LEASES = 12;
    private static final int MOST_OFFERS = 8;
    private static final int MOST_ANEW = 4;
    private static final int MOST_SUM = 9999;
    private static final int LEAST_BASE = 20;
    private static final int MOST_BASE = 60;
    private static final int MOST_OIL = 30;
    private static final int MOST_COINS = 99;
    private static final int MOST_WINDY_DAYS = 40;

    private static final int TEXTS = 0;
    private static final int REFUSED_LEASES = 1;
    private static final int REFUSED_OFFERS = 2;

    private final byte[] tape = new byte[MOST_BYTES];
    private int tapeSize;
    private int faultPlace = NONE;
    private final int[] refused = new int[3];
    private final House dwelling = new House();
    private final HouseReader reader = new HouseReader();
    private final RuleJudge ruleJudge = new RuleJudge(dwelling);
    private final Leases leases = new Leases(dwelling, ruleJudge);
    private final Leases leasesImage = new Leases(dwelling, ruleJudge);
    private final Offers offers = new Offers();
    private final Offers offersImage = new Offers();
    private boolean hasImage;
    private final Pendulum pendulum = new Pendulum(dwelling, leases);
    private final Anew anew = new Anew(dwelling, ruleJudge);
    private final CuckooCases cases = new CuckooCases(dwelling);
    private final Rounds rounds = new Rounds(leases);

    public ClockLodgers() {
    }

    public int feed(int a, int b, int c, int d, int e) {
        if (tapeSize + 20 > MOST_BYTES) {
            return NONE;
        }
        putBytes(a);
        putBytes(b);
        putBytes(c);
        putBytes(d);
        putBytes(e);
        return tapeSize;
    }

    private void putBytes(int number) {
        for (int shift = 24; shift >= 0; shift -= 8) {
            if (tapeSize < MOST_BYTES) {
                tape[tapeSize] = (byte) (number >>> shift);
                tapeSize++;
            }
        }
    }

    public int house(int n) throws IllegalArgumentException {
        if (n < 0 || n > tapeSize) {
            throw new IllegalArgumentException("the tape has not so many bytes");
        }
        tapeSize = 0;
        int fault = reader.read(tape, n);
        if (fault != 0) {
            faultPlace = reader.place();
            refused[TEXTS]++;
            return fault;
        }
        faultPlace = NONE;
        dwelling.copyFrom(reader.draft);
        leases.clear();
        offers.clear();
        anew.forget();
        rounds.forget();
        hasImage = false;
        return 0;
    }

    public int fault() {
        return faultPlace;
    }

    public int count(int what) throws NoSuchElementException {
        switch (what) {
            case 0: return dwelling.base;
            case 1: return dwelling.oil;
            case 2: return dwelling.oilDays;
            case 3: return dwelling.stop;
            case 4: return dwelling.tenants;
            case 5: return dwelling.quarrels;
            case 6: return dwelling.rules;
            case 7: return leases.size;
            case 8: return offers.size;
            case 9: return tapeSize;
            case 10: return refused[TEXTS];
            case 11: return refused[REFUSED_LEASES];
            case 12: return refused[REFUSED_OFFERS];
            default: throw new NoSuchElementException("no such count");
        }
    }

    public int tenant(int tenant, int what) throws NoSuchElementException {
        needTenant(tenant);
        switch (what) {
            case 0: return dwelling.weight[tenant];
            case 1: return dwelling.breath[tenant];
            case 2: return dwelling.stay[tenant];
            case 3: return dwelling.rentAnHour[tenant];
            case 4: return leases.hoursInHalves(tenant);
            case 5: return leases.hoursInPauses(tenant);
            case 6: return dwelling.foes[tenant];
            default: throw new NoSuchElementException("no such what of a tenant");
        }
    }

    public int lease(int tenant, int half, int from, int to) {
        int trouble = leases.troubleOf(tenant, half, from, to);
        if (trouble != 0) {
            refused[REFUSED_LEASES]++;
            return trouble;
        }
        leases.grant(tenant, half, from, to);
        return 0;
    }

    public int judge(int tenant, int half, int from, int to) {
        return leases.troubleOf(tenant, half, from, to);
    }

    public int undo() {
        return leases.takeBack();
    }

    public int in(int half, int hour) throws NoSuchElementException {
        if (half < 0 || half >= HALVES) {
            throw new NoSuchElementException("no such half");
        }
        needHour(hour);
        return leases.who(half, hour);
    }

    public int swing(int hour, int day) throws NoSuchElementException, IllegalArgumentException {
        needHour(hour);
        needDay(day);
        return pendulum.swingIn(hour, dwelling.oilLeft(day), NONE);
    }

    public int slow(int from, int to, int day) throws NoSuchElementException, IllegalArgumentException {
        needHour(from);
        needHour(to);
        needDay(day);
        if (to < from) {
            throw new IllegalArgumentException("the last hour is below the first");
        }
        return pendulum.slowness(from, to, dwelling.oilLeft(day), NONE);
    }

    public int slowBy(int tenant, int day) throws NoSuchElementException, IllegalArgumentException {
        needTenant(tenant);
        needDay(day);
        int oilLeft = dwelling.oilLeft(day);
        return pendulum.slownessOfDay(oilLeft) - pendulum.slowness(0, LAST_HOUR, oilLeft, tenant);
    }

    public int house4(int tenants, int day) throws IllegalArgumentException {
        needDay(day);
        needTenantBits(tenants);
        if (Integer.bitCount(tenants) > MOST_ANEW) {
            throw new IllegalArgumentException("more than 4 tenants");
        }
        return anew.find(tenants, dwelling.oilLeft(day));
    }

    public int housed(int tenant) throws NoSuchElementException {
        needTenant(tenant);
        if (!anew.kept) {
            throw new NoSuchElementException("no way is kept");
        }
        return anew.keptPlace[tenant];
    }

    public int cuckoo(int swing, int what) throws NoSuchElementException {
        if (what < 0 || what > 3) {
            throw new NoSuchElementException("no such what of the cuckoo");
        }
        cases.gather(swing);
        switch (what) {
            case 0: return cases.number;
            case 1: return cases.inAll;
            case 2: return cases.inSome;
            default: return cases.first;
        }
    }

    public int visits(int tenants, int hour) throws NoSuchElementException, IllegalArgumentException {
        needHour(hour);
        needTenantBits(tenants);
        return rounds.find(tenants, hour);
    }

    public int visit(int tenant) throws NoSuchElementException {
        needTenant(tenant);
        if (!rounds.kept) {
            throw new NoSuchElementException("no visits are kept");
        }
        return rounds.keptHour[tenant];
    }

    public int rent(int tenant) throws NoSuchElementException {
        needTenant(tenant);
        return leases.rentOf(tenant);
    }

    public int shared(int tenant, int sum) throws NoSuchElementException, IllegalArgumentException {
        needTenant(tenant);
        if (sum < 0 || sum > MOST_SUM) {
            throw new IllegalArgumentException("no sum from 0 to 9999");
        }
        return leases.shareOf(tenant, sum);
    }

    public int offer(int from, int to, int coins) {
        if (offers.size >= MOST_OFFERS || from < 0 || to < from || to > LAST_HOUR || coins < 0 || coins > MOST_COINS) {
            refused[REFUSED_OFFERS]++;
            return NONE;
        }
        return offers.add(from, to, coins);
    }

    public int sublet(int what) throws NoSuchElementException {
        if (what < 0 || what > 1) {
            throw new NoSuchElementException("no such what of a sublet");
        }
        offers.choose(leases.openPauses());
        return what == 0 ? offers.bestCoins : offers.bestSet;
    }

    public int wedding(int day) throws IllegalArgumentException {
        needDay(day);
        return pendulum.firstWedding(day);
    }

    public int birthday(int day) throws IllegalArgumentException {
        needDay(day);
        return pendulum.daysToBirthday(day);
    }

    public int both(int tenant, int base, int day, int what) throws NoSuchElementException, IllegalArgumentException {
        needTenant(tenant);
        if (what < 0 || what > 1) {
            throw new NoSuchElementException("no such what of two clocks");
        }
        needDay(day);
        if (base < LEAST_BASE || base > MOST_BASE) {
            throw new IllegalArgumentException("no base from 20 to 60");
        }
        int here = pendulum.slownessOfDay(dwelling.oilLeft(day));
        int hours = pendulum.hoursHere(tenant, base, here);
        return what == 0 ? hours : pendulum.fartherOfBoth(tenant, base, here, hours);
    }

    public int wind(int seed, int days, int chance) throws IllegalArgumentException {
        if (days < 0 || days > MOST_WINDY_DAYS || chance < 0 || chance > 100) {
            throw new IllegalArgumentException("no such days or chance");
        }
        return pendulum.slowInWind(seed, days, chance);
    }

    public void image() {
        leasesImage.copyFrom(leases);
        offersImage.copyFrom(offers);
        hasImage = true;
    }

    public boolean restore() {
        if (!hasImage) {
            return false;
        }
        leases.copyFrom(leasesImage);
        offers.copyFrom(offersImage);
        return true;
    }

    private void needTenant(int tenant) {
        if (!dwelling.hasTenant(tenant)) {
            throw new NoSuchElementException("no such tenant");
        }
    }

    private void needTenantBits(int tenants) {
        if (tenants <= 0 || tenants >= 1 << dwelling.tenants) {
            throw new IllegalArgumentException("no tenants, or some that there are not");
        }
    }

    private static void needHour(int hour) {
        if (hour < 0 || hour > LAST_HOUR) {
            throw new NoSuchElementException("no such hour");
        }
    }

    private static void needDay(int day) {
        if (day < 0 || day > LAST_DAY) {
            throw new IllegalArgumentException("it is no day");
        }
    }

    /** Bits from to to, both of them too. */
    private static int hourBits(int from, int to) {
        return (1 << to + 1) - (1 << from);
    }

    /** What a text tells: the clock, its tenants, their quarrels and the rules. */
    private static final class House {
        int base;
        int oil;
        int oilDays;
        int stop;
        int tenants;
        int quarrels;
        int rules;
        final int[] weight = new int[MOST_TENANTS];
        final int[] breath = new int[MOST_TENANTS];
        final int[] stay = new int[MOST_TENANTS];
        final int[] rentAnHour = new int[MOST_TENANTS];
        final int[] foes = new int[MOST_TENANTS];
        /** The rules one behind another, operands ahead of their operator. */
        final int[] code = new int[MOST_BYTES];
        int codeSize;
        final int[] ruleEnd = new int[MOST_RULES];

        House() {
            base = 30;
            oilDays = 7;
            stop = 200;
        }

        void clear() {
            base = 30;
            oil = 0;
            oilDays = 7;
            stop = 200;
            tenants = 0;
            quarrels = 0;
            rules = 0;
            codeSize = 0;
        }

        void copyFrom(House other) {
            base = other.base;
            oil = other.oil;
            oilDays = other.oilDays;
            stop = other.stop;
            tenants = other.tenants;
            quarrels = other.quarrels;
            rules = other.rules;
            codeSize = other.codeSize;
            System.arraycopy(other.weight, 0, weight, 0, MOST_TENANTS);
            System.arraycopy(other.breath, 0, breath, 0, MOST_TENANTS);
            System.arraycopy(other.stay, 0, stay, 0, MOST_TENANTS);
            System.arraycopy(other.rentAnHour, 0, rentAnHour, 0, MOST_TENANTS);
            System.arraycopy(other.foes, 0, foes, 0, MOST_TENANTS);
            System.arraycopy(other.ruleEnd, 0, ruleEnd, 0, MOST_RULES);
            System.arraycopy(other.code, 0, code, 0, codeSize);
        }

        void addCode(int part) {
            if (codeSize < MOST_BYTES) {
                code[codeSize] = part;
                codeSize++;
            }
        }

        boolean hasTenant(int who) {
            return who >= 0 && who < tenants;
        }

        boolean breathLets(int who, int half) {
            return half == PAUSE || breath[who] == BOTH_SIDES || breath[who] == half;
        }

        int weightOf(int who) {
            return who == NONE ? 0 : weight[who];
        }

        int quarrelsOf(int who, int other) {
            return who == NONE || other == NONE ? 0 : foes[who] >> other & 1;
        }

        int oilLeft(int day) {
            int gone = oilDays > 0 ? day / oilDays : 0;
            return Math.max(0, oil - gone);
        }

        /** The first day on which less oil is left than on a day, or the one behind the last. */
        int dayOfLessOil(int day) {
            if (oilLeft(day) == 0 || oilDays <= 0) {
                return LAST_DAY + 1;
            }
            return (day / oilDays + 1) * oilDays;
        }

        int swingOf(int left, int right, int pause, int oilLeft) {
            int weights = weightOf(left) + weightOf(right) + weightOf(pause);
            int couples = quarrelsOf(left, right) + quarrelsOf(left, pause) + quarrelsOf(right, pause);
            return Math.max(2, 2 * base + weights + 3 * couples - oilLeft);
        }
    }

    /** The tokens of a text, in rows; a sign's kind is the sign itself, a word's is its place among WORDS. */
    private static final class Tokens {
        static final int END = 0;
        static final int NUMBER = 1;
        static final int NO_TOKEN = 2;
        static final int OTHER_WORD = 100;
        static final int BASE = 101;
        static final int OIL = 102;
        static final int STOP = 103;
        static final int TENANT = 104;
        static final int QUARREL = 105;
        static final int RULE = 106;
        static final int LEFT_BREATH = 107;
        static final int BOTH_BREATHS = 109;
        static final int OR = 110;
        static final int AND = 111;
        static final int NOT = 112;
        static final int FIRST_VALUE = 113;
        static final int LAST_VALUE = 118;
        private static final String WORDS =
                "base oil stop tenant quarrel rule left right both or and not weight half hour hours other quarrels ";
        private static final String SIGNS = ";()+-*/<=";
        private static final int MOST_DIGITS = 4;

        private final byte[] text = new byte[MOST_BYTES];
        private int size;
        private final int[] kinds = new int[MOST_BYTES + 1];
        private final int[] starts = new int[MOST_BYTES + 1];
        private final int[] numbers = new int[MOST_BYTES + 1];
        private int now;

        /** Takes a text apart and stands at its first token; the last one, END, has the text's length as its place. */
        void begin(byte[] bytes, int howMany) {
            size = Math.max(0, Math.min(howMany, Math.min(bytes.length, MOST_BYTES)));
            System.arraycopy(bytes, 0, text, 0, size);
            now = 0;
            int start = 0;
            for (int i = 0; i < MOST_BYTES && start < size; i++) {
                int end = endOfToken(start);
                if (text[start] != ' ' && text[start] != '\n') {
                    putToken(start, end);
                    now++;
                }
                start = end;
            }
            starts[now] = size;
            kinds[now] = END;
            now = 0;
        }

        private int endOfToken(int start) {
            int end = start + 1;
            if (isLetter(start)) {
                while (end < size && isLetter(end)) {
                    end++;
                }
            } else if (isDigit(start)) {
                while (end < size && isDigit(end)) {
                    end++;
                }
            }
            return end;
        }

        private void putToken(int start, int end) {
            starts[now] = start;
            if (isLetter(start)) {
                kinds[now] = kindOfWord(start, end);
            } else if (isDigit(start)) {
                kinds[now] = NUMBER;
                numbers[now] = numberOf(start, end);
            } else {
                int sign = text[start];
                kinds[now] = sign > 0 && SIGNS.indexOf((char) sign) >= 0 ? sign : NO_TOKEN;
            }
        }

        private int numberOf(int start, int end) {
            if (end - start > MOST_DIGITS) {
                return NONE;
            }
            int number = 0;
            for (int i = start; i < end; i++) {
                number = number * 10 + text[i] - '0';
            }
            return number;
        }

        private int kindOfWord(int start, int end) {
            int kind = BASE;
            int wordStart = 0;
            for (int i = 0; i < WORDS.length(); i++) {
                if (WORDS.charAt(i) == ' ') {
                    if (i - wordStart == end - start && isWordAt(wordStart, start, end)) {
                        return kind;
                    }
                    kind++;
                    wordStart = i + 1;
                }
            }
            return OTHER_WORD;
        }

        private boolean isWordAt(int wordStart, int start, int end) {
            for (int i = start; i < end; i++) {
                if (WORDS.charAt(wordStart + i - start) != text[i]) {
                    return false;
                }
            }
            return true;
        }

        private boolean isLetter(int place) {
            return text[place] >= 'a' && text[place] <= 'z';
        }

        private boolean isDigit(int place) {
            return text[place] >= '0' && text[place] <= '9';
        }

        int kind() {
            return kinds[now];
        }

        boolean isWord() {
            return kinds[now] >= OTHER_WORD;
        }

        /** NONE, if it has too many digits. */
        int number() {
            return numbers[now];
        }

        int place() {
            return starts[now];
        }

        void advance() {
            if (kinds[now] != END && now < MOST_BYTES) {
                now++;
            }
        }
    }

    /**
     * Reads a text into a draft, so that a fault leaves the house as it was.
     * Its private readers answer 0, or the fault of the token at which they stopped.
     */
    private static final class HouseReader {
        static final int CANT_STAND = 1;
        static final int TOO_MUCH = 2;
        static final int UNKNOWN = 3;
        static final int SAME_COUPLE = 4;
        static final int TOLD_TWICE = 5;

        final House draft = new House();
        private final Tokens tokens = new Tokens();
        private final RuleReader ruleReader = new RuleReader(tokens, draft);
        private boolean baseTold;
        private boolean oilTold;
        private boolean stopTold;
        private int number;

        int read(byte[] text, int size) {
            tokens.begin(text, size);
            draft.clear();
            baseTold = false;
            oilTold = false;
            stopTold = false;
            int fault = 0;
            for (int i = 0; i < MOST_BYTES && fault == 0 && tokens.kind() != Tokens.END; i++) {
                fault = readLine();
                if (fault == 0) {
                    fault = readEndOfLine();
                }
            }
            return fault;
        }

        /** Where the fault is: no reader goes past a token that has one. */
        int place() {
            return tokens.place();
        }

        private int readEndOfLine() {
            if (tokens.kind() != ';') {
                return CANT_STAND;
            }
            tokens.advance();
            return 0;
        }

        private int readLine() {
            switch (tokens.kind()) {
                case Tokens.BASE: return readBase();
                case Tokens.OIL: return readOil();
                case Tokens.STOP: return readStop();
                case Tokens.TENANT: return readTenant();
                case Tokens.QUARREL: return readQuarrel();
                case Tokens.RULE: return readRule();
                default: return CANT_STAND;
            }
        }

        private int readBase() {
            if (baseTold) {
                return TOLD_TWICE;
            }
            baseTold = true;
            tokens.advance();
            int fault = readNumber(LEAST_BASE, MOST_BASE);
            draft.base = number;
            return fault;
        }

        private int readOil() {
            if (oilTold) {
                return TOLD_TWICE;
            }
            oilTold = true;
            tokens.advance();
            int fault = readNumber(0, MOST_OIL);
            if (fault != 0) {
                return fault;
            }
            draft.oil = number;
            fault = readNumber(1, 99);
            draft.oilDays = number;
            return fault;
        }

        private int readStop() {
            if (stopTold) {
                return TOLD_TWICE;
            }
            stopTold = true;
            tokens.advance();
            int fault = readNumber(41, 400);
            draft.stop = number;
            return fault;
        }

        private int readTenant() {
            int who = draft.tenants;
            if (who >= MOST_TENANTS) {
                return TOO_MUCH;
            }
            tokens.advance();
            int fault = readNumber(0, 20);
            if (fault != 0) {
                return fault;
            }
            draft.weight[who] = number;
            if (tokens.kind() < Tokens.LEFT_BREATH || tokens.kind() > Tokens.BOTH_BREATHS) {
                return CANT_STAND;
            }
            draft.breath[who] = tokens.kind() - Tokens.LEFT_BREATH;
            tokens.advance();
            fault = readNumber(1, 12);
            if (fault != 0) {
                return fault;
            }
            draft.stay[who] = number;
            fault = readNumber(0, 99);
            draft.rentAnHour[who] = number;
            draft.foes[who] = 0;
            draft.tenants++;
            return fault;
        }

        private int readQuarrel() {
            if (draft.quarrels >= MOST_QUARRELS) {
                return TOO_MUCH;
            }
            tokens.advance();
            int fault = tenantFault();
            if (fault != 0) {
                return fault;
            }
            int one = tokens.number();
            tokens.advance();
            fault = tenantFault();
            if (fault != 0) {
                return fault;
            }
            int other = tokens.number();
            if (one == other || draft.quarrelsOf(one, other) != 0) {
                return SAME_COUPLE;
            }
            tokens.advance();
            draft.foes[one] |= 1 << other;
            draft.foes[other] |= 1 << one;
            draft.quarrels++;
            return 0;
        }

        private int readRule() {
            if (draft.rules >= MOST_RULES) {
                return TOO_MUCH;
            }
            tokens.advance();
            int fault = ruleReader.read();
            draft.ruleEnd[draft.rules] = draft.codeSize;
            draft.rules++;
            return fault;
        }

        private int readNumber(int least, int most) {
            if (tokens.kind() != Tokens.NUMBER) {
                return CANT_STAND;
            }
            number = tokens.number();
            if (number < least || number > most) {
                return TOO_MUCH;
            }
            tokens.advance();
            return 0;
        }

        private int tenantFault() {
            if (tokens.kind() != Tokens.NUMBER) {
                return CANT_STAND;
            }
            if (tokens.number() == NONE) {
                return TOO_MUCH;
            }
            return draft.hasTenant(tokens.number()) ? 0 : UNKNOWN;
        }
    }

    /** Reads one EXPR into code; operators wait on a row of their own until what they join is written. */
    private static final class RuleReader {
        static final int VALUE = 10000;
        static final int OPERATOR = 20000;
        static final int OR = 1;
        static final int AND = 2;
        static final int NOT = 3;
        static final int LESS = 4;
        static final int SAME = 5;
        static final int PLUS = 6;
        static final int MINUS = 7;
        static final int TIMES = 8;
        static final int OVER = 9;
        private static final int OPEN = 0;
        /** How tightly each operator binds, by its number. */
        private static final int[] BINDS = {0, 1, 2, 3, 4, 4, 5, 5, 6, 6};
        private static final int LOOSEST = 1;
        private static final int TEST = 4;
        private static final int SUM = 5;
        private static final int MOST_DEPTH = 6;
        private static final int MOST_NOTS = 6;
        /** A depth holds at most a parenthesis, six nots and one operator of each of five strengths. */
        private static final int MOST_WAITING = 84;

        private final Tokens tokens;
        private final House draft;
        private final int[] waiting = new int[MOST_WAITING];
        private int waits;
        private int depth;
        private boolean wantsPart;
        private boolean notMayStand;
        private int nots;

        RuleReader(Tokens tokens, House draft) {
            this.tokens = tokens;
            this.draft = draft;
        }

        /** Stops at the ';' behind the EXPR. */
        int read() {
            waits = 0;
            depth = 0;
            wantPart(true);
            int fault = 0;
            for (int i = 0; i <= MOST_BYTES && fault == 0; i++) {
                if (wantsPart) {
                    fault = readPart();
                } else if (tokens.kind() == ';' && depth == 0) {
                    writeBinding(LOOSEST);
                    return 0;
                } else if (tokens.kind() == ')') {
                    fault = readClose();
                } else {
                    fault = readOperator();
                }
            }
            return fault;
        }

        private void wantPart(boolean orNot) {
            wantsPart = true;
            notMayStand = orNot;
            nots = 0;
        }

        private int readPart() {
            boolean isNumber = tokens.kind() == Tokens.NUMBER;
            if (!isNumber && !tokens.isWord() && tokens.kind() != '(') {
                return HouseReader.CANT_STAND;
            }
            if (depth >= MOST_DEPTH) {
                return HouseReader.TOO_MUCH;
            }
            if (isNumber) {
                return readConstant();
            }
            if (tokens.isWord()) {
                return notMayStand && tokens.kind() == Tokens.NOT ? readNot() : readValue();
            }
            push(OPEN);
            depth++;
            wantPart(true);
            tokens.advance();
            return 0;
        }

        private int readConstant() {
            if (tokens.number() == NONE) {
                return HouseReader.TOO_MUCH;
            }
            draft.addCode(tokens.number());
            wantsPart = false;
            tokens.advance();
            return 0;
        }

        private int readNot() {
            if (nots >= MOST_NOTS) {
                return HouseReader.TOO_MUCH;
            }
            nots++;
            push(NOT);
            tokens.advance();
            return 0;
        }

        private int readValue() {
            if (tokens.kind() < Tokens.FIRST_VALUE || tokens.kind() > Tokens.LAST_VALUE) {
                return HouseReader.UNKNOWN;
            }
            draft.addCode(VALUE + tokens.kind() - Tokens.FIRST_VALUE);
            wantsPart = false;
            tokens.advance();
            return 0;
        }

        private int readOperator() {
            int operator = operatorTold();
            if (operator == NONE) {
                return HouseReader.CANT_STAND;
            }
            if (BINDS[operator] == TEST) {
                writeBinding(SUM);
                if (waits > 0 && BINDS[waiting[waits - 1]] == TEST) {
                    return HouseReader.CANT_STAND;
                }
            }
            writeBinding(BINDS[operator]);
            push(operator);
            wantPart(operator == OR || operator == AND);
            tokens.advance();
            return 0;
        }

        private int operatorTold() {
            switch (tokens.kind()) {
                case Tokens.OR: return OR;
                case Tokens.AND: return AND;
                case '<': return LESS;
                case '=': return SAME;
                case '+': return PLUS;
                case '-': return MINUS;
                case '*': return TIMES;
                case '/': return OVER;
                default: return NONE;
            }
        }

        private int readClose() {
            if (depth == 0) {
                return HouseReader.CANT_STAND;
            }
            writeBinding(LOOSEST);
            if (waits > 0) {
                waits--;
            }
            depth--;
            tokens.advance();
            return 0;
        }

        private void push(int operator) {
            if (waits < MOST_WAITING) {
                waiting[waits] = operator;
                waits++;
            }
        }

        /** Writes what waits and binds at least so tightly; a parenthesis binds less than all and stays. */
        private void writeBinding(int least) {
            while (waits > 0 && BINDS[waiting[waits - 1]] >= least) {
                waits--;
                draft.addCode(OPERATOR + waiting[waits]);
            }
        }
    }

    /** Says whether all rules hold of a lease in an hour. */
    private static final class RuleJudge {
        static final int WEIGHT = 0;
        static final int HALF = 1;
        static final int HOUR = 2;
        static final int HOW_MANY_HOURS = 3;
        static final int OTHER = 4;
        static final int QUARRELS = 5;
        /** Six depths, in each at most five operators that wait for their second operand. */
        private static final int MOST_OPERANDS = 40;

        private final House dwelling;
        private final int[] values = new int[6];
        private final int[] operands = new int[MOST_OPERANDS];

        RuleJudge(House dwelling) {
            this.dwelling = dwelling;
        }

        boolean holdOf(int who, int half, int hour, int hours, int other, int quarrels) {
            values[WEIGHT] = dwelling.weightOf(who);
            values[HALF] = half;
            values[HOUR] = hour;
            values[HOW_MANY_HOURS] = hours;
            values[OTHER] = other;
            values[QUARRELS] = quarrels;
            int start = 0;
            for (int i = 0; i < dwelling.rules; i++) {
                if (valueOf(start, dwelling.ruleEnd[i]) == 0) {
                    return false;
                }
                start = dwelling.ruleEnd[i];
            }
            return true;
        }

        private int valueOf(int start, int end) {
            int size = 0;
            for (int i = start; i < end; i++) {
                int part = dwelling.code[i];
                if (part < RuleReader.OPERATOR) {
                    if (size < MOST_OPERANDS) {
                        operands[size] = part < RuleReader.VALUE ? part : values[part - RuleReader.VALUE];
                        size++;
                    }
                } else if (part == RuleReader.OPERATOR + RuleReader.NOT) {
                    if (size > 0) {
                        operands[size - 1] = operands[size - 1] == 0 ? 1 : 0;
                    }
                } else if (size > 1) {
                    size--;
                    operands[size - 1] = joined(part - RuleReader.OPERATOR, operands[size - 1], operands[size]);
                }
            }
            return operands[0];
        }

        private static int joined(int operator, int a, int b) {
            switch (operator) {
                case RuleReader.OR: return a != 0 || b != 0 ? 1 : 0;
                case RuleReader.AND: return a != 0 && b != 0 ? 1 : 0;
                case RuleReader.LESS: return a < b ? 1 : 0;
                case RuleReader.SAME: return a == b ? 1 : 0;
                case RuleReader.PLUS: return a + b;
                case RuleReader.MINUS: return a - b;
                case RuleReader.TIMES: return a * b;
                default: return b == 0 ? 0 : a / b;
            }
        }
    }

    /** The leases in their order, and which of them has each half in each hour. */
    private static final class Leases {
        private final House dwelling;
        private final RuleJudge ruleJudge;
        int size;
        /** One more than can be granted: the one that is being judged. */
        private final int[] tenant = new int[MOST_LEASES + 1];
        private final int[] half = new int[MOST_LEASES + 1];
        private final int[] from = new int[MOST_LEASES + 1];
        private final int[] to = new int[MOST_LEASES + 1];
        private final int[] cells = new int[HALVES * HOURS];

        Leases(House dwelling, RuleJudge ruleJudge) {
            this.dwelling = dwelling;
            this.ruleJudge = ruleJudge;
            Arrays.fill(cells, NONE);
        }

        void clear() {
            size = 0;
            Arrays.fill(cells, NONE);
        }

        void copyFrom(Leases other) {
            size = other.size;
            System.arraycopy(other.tenant, 0, tenant, 0, size);
            System.arraycopy(other.half, 0, half, 0, size);
            System.arraycopy(other.from, 0, from, 0, size);
            System.arraycopy(other.to, 0, to, 0, size);
            System.arraycopy(other.cells, 0, cells, 0, HALVES * HOURS);
        }

        int who(int inHalf, int hour) {
            int lease = cells[inHalf * HOURS + hour];
            return lease == NONE ? NONE : tenant[lease];
        }

        int troubleOf(int who, int inHalf, int first, int last) {
            boolean isHalf = inHalf >= 0 && inHalf < HALVES;
            if (!dwelling.hasTenant(who) || !isHalf || first < 0 || last < first || last > LAST_HOUR) {
                return 1;
            }
            if (!dwelling.breathLets(who, inHalf)) {
                return 2;
            }
            int hours = hourBits(first, last);
            if ((hours & letHours(inHalf)) != 0) {
                return 3;
            }
            if ((hours & hoursOf(who)) != 0) {
                return 4;
            }
            if (inHalf == PAUSE && (hours & ~(letHours(LEFT) & letHours(RIGHT))) != 0) {
                return 5;
            }
            if (!rulesWouldHold(who, inHalf, first, last)) {
                return 6;
            }
            return size >= MOST_LEASES ? 7 : 0;
        }

        void grant(int who, int inHalf, int first, int last) {
            if (size < MOST_LEASES) {
                moveIn(who, inHalf, first, last);
                size++;
            }
        }

        int takeBack() {
            if (size == 0) {
                return NONE;
            }
            size--;
            moveOut();
            return size;
        }

        private void moveIn(int who, int inHalf, int first, int last) {
            tenant[size] = who;
            half[size] = inHalf;
            from[size] = first;
            to[size] = last;
            fillCells(size);
        }

        private void moveOut() {
            fillCells(NONE);
        }

        private void fillCells(int lease) {
            for (int hour = from[size]; hour <= to[size]; hour++) {
                cells[half[size] * HOURS + hour] = lease;
            }
        }

        /** In other hours than the new lease's nothing would change: there the rules hold, as all were granted. */
        private boolean rulesWouldHold(int who, int inHalf, int first, int last) {
            if (dwelling.rules == 0) {
                return true;
            }
            moveIn(who, inHalf, first, last);
            boolean hold = true;
            for (int hour = first; hour <= last && hold; hour++) {
                hold = rulesHoldIn(LEFT, hour) && rulesHoldIn(RIGHT, hour) && rulesHoldIn(PAUSE, hour);
            }
            moveOut();
            return hold;
        }

        private boolean rulesHoldIn(int inHalf, int hour) {
            int lease = cells[inHalf * HOURS + hour];
            if (lease == NONE) {
                return true;
            }
            int left = who(LEFT, hour);
            int right = who(RIGHT, hour);
            int self = tenant[lease];
            int other = inHalf == LEFT ? 0 : dwelling.weightOf(left);
            other += inHalf == RIGHT ? 0 : dwelling.weightOf(right);
            int quarrels = dwelling.quarrelsOf(self, left) + dwelling.quarrelsOf(self, right)
                    + dwelling.quarrelsOf(self, who(PAUSE, hour));
            return ruleJudge.holdOf(self, inHalf, hour, to[lease] - from[lease] + 1, other, quarrels);
        }

        private int letHours(int inHalf) {
            int bits = 0;
            for (int lease = 0; lease < size; lease++) {
                if (half[lease] == inHalf) {
                    bits |= hourBits(from[lease], to[lease]);
                }
            }
            return bits;
        }

        int hoursOf(int who) {
            int bits = 0;
            for (int lease = 0; lease < size; lease++) {
                if (tenant[lease] == who) {
                    bits |= hourBits(from[lease], to[lease]);
                }
            }
            return bits;
        }

        int openPauses() {
            return letHours(LEFT) & letHours(RIGHT) & ~letHours(PAUSE);
        }

        int hoursInHalves(int who) {
            return Integer.bitCount(hoursOf(who)) - hoursInPauses(who);
        }

        int hoursInPauses(int who) {
            int hours = 0;
            for (int lease = 0; lease < size; lease++) {
                if (tenant[lease] == who && half[lease] == PAUSE) {
                    hours += to[lease] - from[lease] + 1;
                }
            }
            return hours;
        }

        int rentOf(int who) {
            int anHour = dwelling.rentAnHour[who];
            return anHour * hoursInHalves(who) + (anHour * hoursInPauses(who) + 1) / 2;
        }

        int shareOf(int who, int sum) {
            int allRents = 0;
            for (int other = 0; other < dwelling.tenants; other++) {
                allRents += rentOf(other);
            }
            if (allRents <= 0) {
                return 0;
            }
            int given = 0;
            int ahead = 0;
            int remainder = sum * rentOf(who) % allRents;
            for (int other = 0; other < dwelling.tenants; other++) {
                int part = sum * rentOf(other);
                given += part / allRents;
                int itsRemainder = part % allRents;
                if (itsRemainder > remainder || itsRemainder == remainder && other < who) {
                    ahead++;
                }
            }
            return sum * rentOf(who) / allRents + (ahead < sum - given ? 1 : 0);
        }
    }

    /** How long swings take, and what comes of it. */
    private static final class Pendulum {
        private static final int A_DAY = 1440;
        private static final int SUNDAY = 6;
        private static final int WEEK = 7;
        private static final int GUST = 5;

        private final House dwelling;
        private final Leases leases;

        Pendulum(House dwelling, Leases leases) {
            this.dwelling = dwelling;
            this.leases = leases;
        }

        int swingIn(int hour, int oilLeft, int absent) {
            return dwelling.swingOf(present(LEFT, hour, absent), present(RIGHT, hour, absent),
                    present(PAUSE, hour, absent), oilLeft);
        }

        private int present(int half, int hour, int absent) {
            int who = leases.who(half, hour);
            return who == absent ? NONE : who;
        }

        int slowness(int from, int to, int oilLeft, int absent) {
            int sum = 0;
            for (int hour = from; hour <= to; hour++) {
                sum += swingIn(hour, oilLeft, absent) - RIGHT_SWING;
            }
            return sum;
        }

        int slownessOfDay(int oilLeft) {
            return slowness(0, LAST_HOUR, oilLeft, NONE);
        }

        int firstWedding(int day) {
            int longest = 0;
            for (int hour = 0; hour < HOURS; hour++) {
                longest = Math.max(longest, swingIn(hour, 0, NONE));
            }
            for (int sunday = day + Math.floorMod(SUNDAY - day, WEEK); sunday <= LAST_DAY; sunday += WEEK) {
                int oilLeft = dwelling.oilLeft(sunday);
                if (longest - oilLeft > dwelling.stop) {
                    return sunday;
                }
                if (oilLeft == 0) {
                    return NONE;
                }
            }
            return NONE;
        }

        /** Goes by runs of days of like oil, as these are of like slowness. */
        int daysToBirthday(int day) {
            int sum = 0;
            int start = day;
            for (int run = 0; run <= MOST_OIL && start <= LAST_DAY; run++) {
                int ofDay = slownessOfDay(dwelling.oilLeft(start));
                int end = dwelling.dayOfLessOil(start);
                int needed = ofDay < 0 ? daysToADay(-sum, -ofDay) : daysToADay(sum, ofDay);
                if (needed <= end - start) {
                    int days = start - day + needed;
                    return ofDay < 0 ? -days : days;
                }
                sum += ofDay * (end - start);
                start = end;
            }
            return 0;
        }

        private static int daysToADay(int sum, int ofDay) {
            return ofDay <= 0 ? LAST_DAY + 2 : (A_DAY - sum + ofDay - 1) / ofDay;
        }

        int hoursHere(int who, int base, int hereWithout) {
            int best = 0;
            for (int hours = 1; hours <= dwelling.stay[who]; hours++) {
                if (fartherOfBoth(who, base, hereWithout, hours) < fartherOfBoth(who, base, hereWithout, best)) {
                    best = hours;
                }
            }
            return best;
        }

        int fartherOfBoth(int who, int base, int hereWithout, int hours) {
            int here = hereWithout + dwelling.weight[who] * hours;
            int there = HOURS * (2 * base - RIGHT_SWING) + dwelling.weight[who] * (dwelling.stay[who] - hours);
            return Math.max(Math.abs(here), Math.abs(there));
        }

        int slowInWind(int seed, int days, int chance) {
            int drawn = seed;
            int sum = 0;
            for (int day = 0; day < days; day++) {
                sum += slownessOfDay(dwelling.oilLeft(day));
                for (int hour = 0; hour < HOURS; hour++) {
                    drawn = drawn * 1103515245 + 12345;
                    if ((drawn >>> 16 & 32767) % 100 < chance) {
                        sum -= GUST;
                    }
                }
            }
            return sum;
        }
    }

    /** Houses some tenants anew, so that noon is right. */
    private static final class Anew {
        private static final int SLOTS = 16;
        private static final int SLOTS_A_HALF = 8;
        private static final int STEP = 3;
        private static final int MORNING = 4095;
        private static final int MORNING_HOURS = 12;
        private static final int NO_WAY = 1000000;

        private final House dwelling;
        private final RuleJudge ruleJudge;
        private final int[] who = new int[MOST_ANEW];
        private int size;
        /**
         * By each one and his slot: its hours (none, if he can't be there, whoever else is in), and
         * those in which the rules hold of him alone, and beside each other one.
         */
        private final int[] span = new int[MOST_ANEW * SLOTS];
        private final int[] alone = new int[MOST_ANEW * SLOTS];
        private final int[] beside = new int[MOST_ANEW * SLOTS * MOST_ANEW];
        private final int[] mostBehind = new int[MOST_ANEW + 1];
        private final int[] slot = new int[MOST_ANEW];
        private final int[] bestSlot = new int[MOST_ANEW];
        private int best;
        boolean kept;
        final int[] keptPlace = new int[MOST_TENANTS];

        Anew(House dwelling, RuleJudge ruleJudge) {
            this.dwelling = dwelling;
            this.ruleJudge = ruleJudge;
        }

        void forget() {
            kept = false;
        }

        int find(int tenants, int oilLeft) {
            gather(tenants);
            for (int one = 0; one < size; one++) {
                for (int s = 0; s < SLOTS; s++) {
                    measure(one, s);
                }
            }
            best = NO_WAY;
            // A swing is never cut to 2 (BASE is 20 and more, OIL 30 and less): slowness adds up by parts.
            placeFrom(0, MORNING_HOURS * (dwelling.swingOf(NONE, NONE, NONE, oilLeft) - RIGHT_SWING));
            if (best == NO_WAY) {
                return NONE;
            }
            keep();
            return best;
        }

        private void gather(int tenants) {
            size = 0;
            for (int tenant = 0; tenant < MOST_TENANTS; tenant++) {
                if ((tenants >> tenant & 1) != 0 && size < MOST_ANEW) {
                    who[size] = tenant;
                    size++;
                }
            }
            mostBehind[size] = 0;
            for (int one = size - 1; one >= 0; one--) {
                int most = dwelling.weight[who[one]];
                for (int other = 0; other < one; other++) {
                    most += 3 * dwelling.quarrelsOf(who[one], who[other]);
                }
                mostBehind[one] = mostBehind[one + 1] + most * Math.min(MORNING_HOURS, dwelling.stay[who[one]]);
            }
        }

        private static int halfOf(int s) {
            return s / SLOTS_A_HALF;
        }

        private static int fromOf(int s) {
            return s % SLOTS_A_HALF * STEP;
        }

        private void measure(int one, int s) {
            int at = one * SLOTS + s;
            span[at] = 0;
            int from = fromOf(s);
            int to = from + dwelling.stay[who[one]] - 1;
            // A stay is had whole: where it would go beyond the last hour is no place for him.
            if (to > LAST_HOUR || !dwelling.breathLets(who[one], halfOf(s))) {
                return;
            }
            alone[at] = goodHours(one, halfOf(s), from, to, NONE);
            int good = alone[at];
            for (int other = 0; other < size; other++) {
                if (other != one) {
                    beside[at * MOST_ANEW + other] = goodHours(one, halfOf(s), from, to, who[other]);
                    good |= beside[at * MOST_ANEW + other];
                }
            }
            span[at] = good == hourBits(from, to) ? good : 0;
        }

        private int goodHours(int one, int half, int from, int to, int other) {
            int weight = dwelling.weightOf(other);
            int quarrels = dwelling.quarrelsOf(who[one], other);
            int bits = 0;
            for (int hour = from; hour <= to; hour++) {
                if (ruleJudge.holdOf(who[one], half, hour, to - from + 1, weight, quarrels)) {
                    bits |= 1 << hour;
                }
            }
            return bits;
        }

        /** Whoever comes later adds 0 to mostBehind to the sum: what can't come nearer to 0 isn't tried. */
        private void placeFrom(int one, int sum) {
            if (sum >= best || -(sum + mostBehind[one]) >= best) {
                return;
            }
            if (one >= size) {
                keepIfRulesHold(sum);
                return;
            }
            for (int s = 0; s < SLOTS && best > 0; s++) {
                if (fits(one, s)) {
                    slot[one] = s;
                    placeFrom(one + 1, sum + adds(one, s));
                }
            }
        }

        private boolean fits(int one, int s) {
            int at = one * SLOTS + s;
            if (span[at] == 0) {
                return false;
            }
            for (int other = 0; other < one; other++) {
                int atOther = other * SLOTS + slot[other];
                int common = span[at] & span[atOther];
                if (common != 0) {
                    if (halfOf(s) == halfOf(slot[other])) {
                        return false;
                    }
                    int good = beside[at * MOST_ANEW + other] & beside[atOther * MOST_ANEW + one];
                    if ((common & ~good) != 0) {
                        return false;
                    }
                }
            }
            return true;
        }

        private int adds(int one, int s) {
            int morning = span[one * SLOTS + s] & MORNING;
            int sum = dwelling.weight[who[one]] * Integer.bitCount(morning);
            for (int other = 0; other < one; other++) {
                if (dwelling.quarrelsOf(who[one], who[other]) != 0) {
                    sum += 3 * Integer.bitCount(morning & span[other * SLOTS + slot[other]]);
                }
            }
            return sum;
        }

        /** Who shares an hour was looked at as he came; what is left are the hours in which one is alone. */
        private void keepIfRulesHold(int sum) {
            for (int one = 0; one < size; one++) {
                int at = one * SLOTS + slot[one];
                int lonely = span[at];
                for (int other = 0; other < size; other++) {
                    if (other != one) {
                        lonely &= ~span[other * SLOTS + slot[other]];
                    }
                }
                if ((lonely & ~alone[at]) != 0) {
                    return;
                }
            }
            best = Math.abs(sum);
            System.arraycopy(slot, 0, bestSlot, 0, size);
        }

        private void keep() {
            Arrays.fill(keptPlace, NONE);
            for (int one = 0; one < size; one++) {
                keptPlace[who[one]] = HOURS * halfOf(bestSlot[one]) + fromOf(bestSlot[one]);
            }
            kept = true;
        }
    }

    /** Who may have been in, by how long a swing took on day 0. */
    private static final class CuckooCases {
        private final House dwelling;
        private int swingHeard;
        int number;
        int inAll;
        int inSome;
        int first;

        CuckooCases(House dwelling) {
            this.dwelling = dwelling;
        }

        void gather(int swingTook) {
            swingHeard = swingTook;
            number = 0;
            inAll = 0;
            inSome = 0;
            first = NONE;
            for (int left = NONE; left < dwelling.tenants; left++) {
                if (left == NONE || dwelling.breathLets(left, LEFT)) {
                    gatherWithLeft(left);
                }
            }
        }

        private void gatherWithLeft(int left) {
            for (int right = NONE; right < dwelling.tenants; right++) {
                if (right == NONE || right != left && dwelling.breathLets(right, RIGHT)) {
                    gatherWithHalves(left, right);
                }
            }
        }

        private void gatherWithHalves(int left, int right) {
            lookAt(left, right, NONE);
            if (left == NONE || right == NONE) {
                return;
            }
            for (int pause = 0; pause < dwelling.tenants; pause++) {
                if (pause != left && pause != right) {
                    lookAt(left, right, pause);
                }
            }
        }

        private void lookAt(int left, int right, int pause) {
            if (dwelling.swingOf(left, right, pause, dwelling.oilLeft(0)) != swingHeard) {
                return;
            }
            int bits = bitOf(left) | bitOf(right) | bitOf(pause);
            if (number == 0) {
                first = 100 * (left + 1) + 10 * (right + 1) + pause + 1;
                inAll = bits;
            }
            inAll &= bits;
            inSome |= bits;
            number++;
        }

        private static int bitOf(int tenant) {
            return tenant == NONE ? 0 : 1 << tenant;
        }
    }

    /** Visits on the hour. */
    private static final class Rounds {
        private final Leases leases;
        /** By some tenants as bits: the hours in which one of them or more are in. */
        private final int[] hoursOfSome = new int[1 << MOST_TENANTS];
        private final int[] hourFound = new int[MOST_TENANTS];
        boolean kept;
        final int[] keptHour = new int[MOST_TENANTS];

        Rounds(Leases leases) {
            this.leases = leases;
        }

        void forget() {
            kept = false;
        }

        int find(int tenants, int from) {
            gatherHours();
            for (int last = from; last <= LAST_HOUR; last++) {
                int hours = hourBits(from, last);
                if (canVisit(tenants, hours)) {
                    choose(tenants, hours);
                    System.arraycopy(hourFound, 0, keptHour, 0, MOST_TENANTS);
                    kept = true;
                    return last;
                }
            }
            return NONE;
        }

        private void gatherHours() {
            hoursOfSome[0] = 0;
            for (int tenant = 0; tenant < MOST_TENANTS; tenant++) {
                int hours = leases.hoursOf(tenant);
                int bit = 1 << tenant;
                for (int some = 0; some < bit; some++) {
                    hoursOfSome[bit + some] = hoursOfSome[some] | hours;
                }
            }
        }

        /** By Hall's theorem: each can have an hour of his own, if no some of them have fewer than they are. */
        private boolean canVisit(int tenants, int hours) {
            for (int some = 1; some <= tenants; some++) {
                if ((some & ~tenants) == 0 && Integer.bitCount(hoursOfSome[some] & hours) < Integer.bitCount(some)) {
                    return false;
                }
            }
            return true;
        }

        private void choose(int tenants, int hours) {
            int rest = tenants;
            int free = hours;
            for (int tenant = 0; tenant < MOST_TENANTS; tenant++) {
                hourFound[tenant] = NONE;
                if ((tenants >> tenant & 1) != 0) {
                    rest &= ~(1 << tenant);
                    hourFound[tenant] = firstHour(hoursOfSome[1 << tenant] & free, rest, free);
                    free &= ~(1 << hourFound[tenant]);
                }
            }
        }

        private int firstHour(int hours, int rest, int free) {
            for (int hour = 0; hour < HOURS; hour++) {
                if ((hours >> hour & 1) != 0 && canVisit(rest, free & ~(1 << hour))) {
                    return hour;
                }
            }
            return NONE;
        }
    }

    /** Who would sublet pauses. */
    private static final class Offers {
        int size;
        private final int[] hours = new int[MOST_OFFERS];
        private final int[] coins = new int[MOST_OFFERS];
        int bestCoins;
        int bestSet;

        void clear() {
            size = 0;
        }

        void copyFrom(Offers other) {
            size = other.size;
            System.arraycopy(other.hours, 0, hours, 0, size);
            System.arraycopy(other.coins, 0, coins, 0, size);
        }

        int add(int from, int to, int howMany) {
            if (size < MOST_OFFERS) {
                hours[size] = hourBits(from, to);
                coins[size] = howMany;
                size++;
            }
            return size;
        }

        void choose(int openHours) {
            bestCoins = 0;
            bestSet = 0;
            for (int set = 1; set < 1 << size; set++) {
                int sum = coinsOf(set, openHours);
                if (sum > bestCoins) {
                    bestCoins = sum;
                    bestSet = set;
                }
            }
        }

        private int coinsOf(int set, int openHours) {
            int open = openHours;
            int sum = 0;
            for (int offer = 0; offer < size; offer++) {
                if ((set >> offer & 1) != 0) {
                    if ((hours[offer] & ~open) != 0) {
                        return NONE;
                    }
                    open &= ~hours[offer];
                    sum += coins[offer];
                }
            }
            return sum;
        }
    }
}
