import java.util.Arrays;
import java.util.NoSuchElementException;

/** A house with one stage: its OPERAS, SINGERS, CALLS, and all of it as it was known on any DAY. */
public final class OperaHouse {
    public static final int NONE = -1;

    private static final int DAYS = 30;
    private static final int HOURS_A_DAY = 24;
    private static final int WEEK_BACK = 6;

    private static final int MOST_TAPE = 340;
    private static final int MOST_TEXT = 300;
    private static final int MOST_OPERAS = 9;
    private static final int MOST_SINGERS = 20;
    private static final int MOST_CALLS = 60;
    private static final int MOST_ROLES = 8;
    private static final int MOST_CASTS = 400;
    private static final int MOST_ILL = 60;
    private static final int MOST_LESSONS = 200;
    private static final int MOST_NIGHTS = 6;
    private static final int MOST_TRIES = 400;
    private static final int MOST_MOVES = 40;

    /** Every ROLE of every CALL has one spot in a row of this length. */
    private static final int SPOTS = 480;
    /** Every ROLE of every OPERA has one place in a row of this length. */
    private static final int PARTS = 72;
    /** Of one CALL at most 6 kinds of its own and 8 of each ROLE can be WRONG. */
    private static final int MOST_WRONG = 4200;

    private static final int ROOM = 0;
    private static final int MARKS = 1;
    private static final int FULL = 2;
    private static final int NIGHT = 3;

    private static final int NO_SINGER = -1000;
    private static final int GIVEN_UP = -2;

    private final int[] tape = new int[MOST_TAPE];
    private final int[] wrongList = new int[MOST_WRONG];
    private final House house = new House();
    private final Calls calls = new Calls();
    private final Ledger ledger = new Ledger();
    private final Wagons wagons = new Wagons();
    private final Reader reader = new Reader(tape);
    private final Walk walk = new Walk(house, calls, ledger);
    private final Judge judge = new Judge(house, calls, ledger, wagons, walk);
    private final Layer layer = new Layer(house, calls, ledger, judge);
    private int tapeSize;
    private int today;
    private int latestFault;
    private int wrongSize;

    public OperaHouse() {
        house.daily = HOURS_A_DAY;
        house.weekly = 168;
    }

    public int feed(int a, int b, int c, int d, int e) {
        if (tapeSize + 20 > MOST_TAPE) {
            return NONE;
        }
        putBytes(a);
        putBytes(b);
        putBytes(c);
        putBytes(d);
        putBytes(e);
        layer.fresh = false;
        return tapeSize;
    }

    private void putBytes(int number) {
        for (int shift = 24; shift >= 0; shift -= 8) {
            tape[tapeSize] = (number >> shift) & 255;
            tapeSize++;
        }
    }

    public boolean end(int n) {
        if (n < 0 || n > tapeSize) {
            return false;
        }
        tapeSize = n;
        layer.fresh = false;
        return true;
    }

    private int emptiedTape() {
        int size = tapeSize;
        tapeSize = 0;
        return size;
    }

    public int next(int n) {
        if (n < 0 || n >= DAYS || today + n >= DAYS) {
            return NONE;
        }
        today += n;
        layer.fresh = false;
        return today;
    }

    public int opera(int hours, int set, boolean chorus, int need) {
        int size = emptiedTape();
        if (house.operas >= MOST_OPERAS) {
            return NONE;
        }
        if (!within(hours, 2, 6) || !within(set, 0, 3) || !within(need, 1, 60)) {
            return NONE;
        }
        Opera work = house.opera[house.operas];
        if (!work.readTape(tape, size)) {
            return NONE;
        }
        work.hours = hours;
        work.stageSet = set;
        work.hasChorus = chorus;
        work.need = need;
        house.operas++;
        layer.fresh = false;
        return house.operas - 1;
    }

    public int singer(int voices, int tongues, int size) {
        if (house.singers >= MOST_SINGERS) {
            return NONE;
        }
        if (!within(voices, 0, 63) || !within(tongues, 0, 63) || !within(size, 0, 9)) {
            return NONE;
        }
        int s = house.singers;
        house.voices[s] = voices;
        house.tongues[s] = tongues;
        house.sizes[s] = size;
        house.singers++;
        layer.fresh = false;
        return s;
    }

    public boolean players(int g, int one, int other) {
        if (!within(g, 0, 3) || !within(one, 0, 60) || !within(other, 0, 60)) {
            return false;
        }
        house.oneHalf[g] = one;
        house.otherHalf[g] = other;
        layer.fresh = false;
        return true;
    }

    public boolean chorus(int daily, int weekly) {
        if (!within(daily, 0, 24) || !within(weekly, 0, 168)) {
            return false;
        }
        house.daily = daily;
        house.weekly = weekly;
        layer.fresh = false;
        return true;
    }

    public int contract(int s) {
        int size = emptiedTape();
        if (!house.isSinger(s)) {
            return NO_SINGER;
        }
        Contract old = house.contract[s];
        int answer = reader.read(size, house.spare);
        latestFault = reader.faultKind;
        if (latestFault == 0) {
            house.contract[s] = house.spare;
            house.spare = old;
            layer.fresh = false;
        }
        return answer;
    }

    public int fault() {
        return latestFault;
    }

    public boolean learn(int s, int o, int r, int hours) {
        if (!house.isSinger(s) || !house.isRole(o, r) || !within(hours, 1, 99)) {
            return false;
        }
        if (ledger.lessons >= MOST_LESSONS) {
            return false;
        }
        ledger.tellLesson(s * PARTS + o * MOST_ROLES + r, hours, today);
        layer.fresh = false;
        return true;
    }

    public int call(int day, int hour, int kind, int opera, int halves) {
        if (calls.number >= MOST_CALLS || !house.isOpera(opera)) {
            return NONE;
        }
        if (!within(day, today, DAYS - 1) || !within(kind, ROOM, NIGHT) || !within(halves, 0, 3)) {
            return NONE;
        }
        int length = house.length(kind, opera);
        if (!within(hour, 0, HOURS_A_DAY - length)) {
            return NONE;
        }
        calls.put(day, hour, length, kind, opera, halves);
        layer.fresh = false;
        return calls.number - 1;
    }

    public boolean cast(int c, int r, int s, boolean cover) {
        if (!isSpot(c, r) || s != NONE && !house.isSinger(s)) {
            return false;
        }
        if (calls.day[c] < today || ledger.casts >= MOST_CASTS) {
            return false;
        }
        ledger.tellCast(c * MOST_ROLES + r, s, cover, today);
        layer.fresh = false;
        return true;
    }

    public boolean ill(int s, int from, int to) {
        if (!house.isSinger(s) || !within(from, 0, DAYS - 1) || !within(to, from, DAYS - 1)) {
            return false;
        }
        if (ledger.ills >= MOST_ILL) {
            return false;
        }
        ledger.tellIll(s, from, to, today);
        layer.fresh = false;
        return true;
    }

    public int who(int c, int r, boolean cover, int t) {
        if (!isSpot(c, r)) {
            return NONE;
        }
        ledger.know(t);
        int spot = c * MOST_ROLES + r;
        return cover ? ledger.cover[spot] : ledger.cast[spot];
    }

    public int wrong(int t) {
        ledger.know(t);
        judge.run();
        wrongSize = judge.list(wrongList);
        return wrongSize;
    }

    public int told(int k, int what) throws NoSuchElementException {
        if (k < 0 || k >= wrongSize || !within(what, 0, 2)) {
            throw new NoSuchElementException("nothing such was wrong");
        }
        int entry = wrongList[k];
        if (what == 0) {
            return entry & 15;
        }
        if (what == 1) {
            return entry >> 8;
        }
        return (entry >> 4 & 15) - 1;
    }

    public int learned(int s, int c, int r, int t) {
        if (!house.isSinger(s) || !isSpot(c, r)) {
            return NONE;
        }
        ledger.know(t);
        return walk.learnedBy(s, c, r);
    }

    public int tired(int s, int c, int t) {
        if (!house.isSinger(s) || !calls.has(c)) {
            return NONE;
        }
        ledger.know(t);
        return walk.tiredAt(s, c);
    }

    public int fee(int s, int c, int t) {
        if (!house.isSinger(s) || !calls.has(c)) {
            return NONE;
        }
        ledger.know(t);
        return walk.feeOf(s, c);
    }

    public int pay(int s, int d, int t) {
        if (!house.isSinger(s) || !within(d, 0, DAYS - 1)) {
            return NONE;
        }
        ledger.know(t);
        int sum = 0;
        for (int c = 0; c < calls.number; c++) {
            if (calls.day[c] <= d) {
                sum += walk.feeOf(s, c);
            }
        }
        return sum;
    }

    public int moves(int set, int most) {
        if (!within(set, 0, 3) || !within(most, 0, MOST_MOVES)) {
            return NONE;
        }
        return wagons.fewest(set, most);
    }

    public boolean may(int s, int c, int r) {
        if (!house.isSinger(s) || !isSpot(c, r)) {
            return false;
        }
        ledger.know(today);
        return calls.day[c] >= today && walk.fits(s, c, r);
    }

    public int harm(int s, int c, int r) {
        if (!house.isSinger(s) || !isSpot(c, r)) {
            return NONE;
        }
        ledger.know(today);
        return walk.harmOf(s, c, r);
    }

    public int instead(int c, int r) {
        if (!isSpot(c, r) || calls.day[c] < today) {
            return NONE;
        }
        ledger.know(today);
        int best = NONE;
        int least = 0;
        for (int s = 0; s < house.singers; s++) {
            if (walk.fits(s, c, r)) {
                int harm = walk.harmOf(s, c, r);
                if (best == NONE || harm < least) {
                    best = s;
                    least = harm;
                }
            }
        }
        return best;
    }

    public int lay(int first, int last, int hour) {
        int size = emptiedTape();
        layer.forget();
        if (!within(first, today, DAYS - 1) || !within(last, first, DAYS - 1)) {
            return NONE;
        }
        if (!layer.wish(tape, size, hour)) {
            return NONE;
        }
        ledger.know(today);
        return layer.search(first, last);
    }

    public int laid(int k) {
        if (k < 0 || k >= layer.nights) {
            return NONE;
        }
        return layer.day[k];
    }

    public int keep() {
        if (!layer.fresh || layer.nights == 0) {
            return NONE;
        }
        ledger.know(today);
        if (ledger.casts + layer.castsToTell() > MOST_CASTS) {
            return NONE;
        }
        layer.tellNights(today);
        layer.fresh = false;
        return calls.number;
    }

    public int count(int what) {
        switch (what) {
            case 0:
                return today;
            case 1:
                return house.operas;
            case 2:
                return house.singers;
            case 3:
                return calls.number;
            case 4:
                return ledger.casts;
            case 5:
                return ledger.ills;
            case 6:
                return tapeSize;
            default:
                return NONE;
        }
    }

    /** Whether there is such a CALL, and its OPERA has such a ROLE. */
    private boolean isSpot(int c, int r) {
        return calls.has(c) && house.isRole(calls.opera[c], r);
    }

    private static boolean within(int number, int least, int most) {
        return number >= least && number <= most;
    }

    // ---- contracts ----

    private static final int PLAIN = 0;
    private static final int LIMIT = 1;
    private static final int FACT = 2;
    private static final int MEASURE = 3;
    private static final int SIGN = 4;

    private static final int FACT_LATE = 4;
    private static final int FACT_COVER = 5;
    private static final int FACT_INSTEAD = 6;
    private static final int FACT_HOURS = 7;
    private static final int FACT_NTH = 8;
    private static final int FACT_OVER = 9;
    private static final int FACTS = 10;
    private static final int STEP_NOT = 10;
    private static final int STEP_AND = 11;
    private static final int STEP_OR = 12;

    private static final int LIMIT_REST = 0;
    private static final int LIMIT_DAY = 1;
    private static final int LIMIT_WEEK = 2;
    private static final int LIMIT_VOICE = 3;
    private static final int LIMITS = 4;
    private static final int[] LIMIT_LEAST = {0, 1, 0, 1};
    private static final int[] LIMIT_MOST = {72, 24, 7, 999};

    private static final int MOST_RULES = 18;
    private static final int MOST_LEAVES = 6;
    private static final int MOST_FEES = 8;
    private static final int MOST_ONES = 40;
    private static final int MOST_DEPTH = 12;
    /** 40 ONES leave at most 40 steps of their own and fewer than 40 that join two. */
    private static final int MOST_STEPS = 80;

    private static final int FAULT_TOKEN = 1;
    private static final int FAULT_NUMBER = 2;
    private static final int FAULT_AGAIN = 3;
    private static final int FAULT_ONES = 4;

    /** What can stand in a CONTRACT: its text, which sort it is of, and which one of these. */
    private enum Token {
        REST("rest", LIMIT, LIMIT_REST), DAY("day", LIMIT, LIMIT_DAY),
        WEEK("week", LIMIT, LIMIT_WEEK), VOICE("voice", LIMIT, LIMIT_VOICE),
        LEAVE("leave", PLAIN, 0), TO("to", PLAIN, 0), FEE("fee", PLAIN, 0), IF("if", PLAIN, 0),
        OR("or", PLAIN, 0), AND("and", PLAIN, 0), NOT("not", PLAIN, 0),
        IN_ROOM("room", FACT, ROOM), AT_MARKS("marks", FACT, MARKS),
        AT_FULL("full", FACT, FULL), AT_NIGHT("night", FACT, NIGHT),
        LATE("late", FACT, FACT_LATE), COVER("cover", FACT, FACT_COVER),
        INSTEAD("instead", FACT, FACT_INSTEAD),
        HOURS("hours", MEASURE, FACT_HOURS), NTH("nth", MEASURE, FACT_NTH),
        OVER("over", MEASURE, FACT_OVER),
        LESS("<", SIGN, 0), SAME("=", SIGN, 1), MORE(">", SIGN, 2),
        STOP(";", PLAIN, 0), OPEN("(", PLAIN, 0), CLOSE(")", PLAIN, 0),
        NUMBER("", PLAIN, 0), FINISH("", PLAIN, 0), BAD("", PLAIN, 0);

        private static final Token[] ALL = values();

        final String text;
        final int sort;
        final int code;

        Token(String text, int sort, int code) {
            this.text = text;
            this.sort = sort;
            this.code = code;
        }

        /** The WORD or sign that stands on the tape between two places; BAD: none does. */
        static Token find(int[] tape, int from, int to) {
            for (int k = 0; k < ALL.length; k++) {
                String text = ALL[k].text;
                int alike = 0;
                while (alike < text.length() && from + alike < to && text.charAt(alike) == tape[from + alike]) {
                    alike++;
                }
                if (alike > 0 && alike == text.length() && alike == to - from) {
                    return ALL[k];
                }
            }
            return BAD;
        }

        /** Whether a ONE can begin with it. */
        boolean beginsOne() {
            return sort == FACT || sort == MEASURE || this == NOT || this == OPEN;
        }
    }

    /** What a CONTRACT tells; the COND of each fee as steps, what is joined ahead of what joins it. */
    private static final class Contract {
        final int[] limits = new int[LIMITS];
        final int[] sums = new int[MOST_FEES];
        final int[] starts = new int[MOST_FEES + 1];
        final int[] plan = new int[MOST_STEPS];
        int limitsTold;
        int leaves;
        int daysAway;
        int fees;
        int steps;

        Contract() {
            blank();
        }

        void blank() {
            limits[LIMIT_REST] = 12;
            limits[LIMIT_DAY] = 8;
            limits[LIMIT_WEEK] = 4;
            limits[LIMIT_VOICE] = 100;
            limitsTold = 0;
            leaves = 0;
            daysAway = 0;
            fees = 0;
            steps = 0;
        }

        void addLeave(int from, int to) {
            daysAway |= daysBetween(from, to);
            leaves++;
        }

        void addStep(int code, int sign, int number) {
            if (steps < MOST_STEPS) {
                plan[steps] = number * 64 + sign * 16 + code;
                steps++;
            }
        }

        void endFee(int sum) {
            if (fees < MOST_FEES) {
                sums[fees] = sum;
                fees++;
                starts[fees] = steps;
            }
        }

        int payFor(int[] facts) {
            int sum = 0;
            for (int k = 0; k < fees; k++) {
                if (holds(k, facts)) {
                    sum += sums[k];
                }
            }
            return sum;
        }

        private boolean holds(int k, int[] facts) {
            // One bit for each answer that waits to be joined; no steps at all leave the first bit, true.
            long answers = 1;
            for (int i = starts[k]; i < starts[k + 1]; i++) {
                answers = after(plan[i], answers, facts);
            }
            return (answers & 1) == 1;
        }

        private static long after(int step, long answers, int[] facts) {
            int code = step & 15;
            if (code == STEP_NOT) {
                return answers ^ 1;
            }
            if (code == STEP_AND) {
                return (answers & 1) == 1 ? answers >> 1 : answers >> 1 & ~1L;
            }
            if (code == STEP_OR) {
                return answers >> 1 | answers & 1;
            }
            return answers << 1 | (isSo(code, step >> 4 & 3, step >> 6, facts) ? 1 : 0);
        }

        private static boolean isSo(int code, int sign, int number, int[] facts) {
            if (code >= FACTS) {
                return false;
            }
            int value = facts[code];
            if (code < FACT_HOURS) {
                return value != 0;
            }
            if (sign == Token.LESS.code) {
                return value < number;
            }
            return sign == Token.SAME.code ? value == number : value > number;
        }
    }

    /** Reads the tape as the text of a CONTRACT. */
    private static final class Reader {
        private final int[] tape;
        private int size;
        private int at;
        private int place;
        private int number;
        private int ones;
        private Token token = Token.FINISH;
        private Contract paper = new Contract();
        int faultKind;

        Reader(int[] tape) {
            this.tape = tape;
        }

        /** How many RULES there are; -1 - the place of a FAULT. */
        int read(int bytes, Contract blankPaper) {
            size = bytes;
            paper = blankPaper;
            at = 0;
            ones = 0;
            faultKind = 0;
            paper.blank();
            advance();
            int rules = 0;
            boolean good = true;
            // One RULE more than can hold is read, for its FAULT.
            while (good && token != Token.FINISH && rules <= MOST_RULES) {
                if (token.sort == LIMIT) {
                    good = limit(token.code);
                } else if (token == Token.LEAVE) {
                    good = leave();
                } else {
                    good = token == Token.FEE ? payment() : blame(FAULT_TOKEN);
                }
                rules++;
            }
            return good ? rules : -1 - place;
        }

        /** A FAULT at the TOKEN that is read; nothing is read behind it. */
        private boolean blame(int kind) {
            faultKind = kind;
            return false;
        }

        private boolean limit(int k) {
            if ((paper.limitsTold >> k & 1) == 1) {
                return blame(FAULT_AGAIN);
            }
            advance();
            if (!isNumber(LIMIT_LEAST[k], LIMIT_MOST[k])) {
                return false;
            }
            paper.limits[k] = number;
            paper.limitsTold |= 1 << k;
            advance();
            return passes(Token.STOP);
        }

        private boolean leave() {
            if (paper.leaves >= MOST_LEAVES) {
                return blame(FAULT_AGAIN);
            }
            advance();
            if (!isNumber(0, DAYS - 1)) {
                return false;
            }
            int from = number;
            advance();
            if (!passes(Token.TO) || !isNumber(from, DAYS - 1)) {
                return false;
            }
            paper.addLeave(from, number);
            advance();
            return passes(Token.STOP);
        }

        private boolean payment() {
            if (paper.fees >= MOST_FEES) {
                return blame(FAULT_AGAIN);
            }
            advance();
            if (token != Token.NUMBER) {
                return blame(FAULT_TOKEN);
            }
            int sum = number;
            advance();
            if (token == Token.IF) {
                advance();
                if (!cond(1)) {
                    return false;
                }
            }
            paper.endFee(sum);
            return passes(Token.STOP);
        }

        private boolean cond(int depth) {
            boolean good = all(depth);
            for (int k = 0; k < MOST_ONES && good && token == Token.OR; k++) {
                advance();
                good = all(depth);
                paper.addStep(STEP_OR, 0, 0);
            }
            return good;
        }

        private boolean all(int depth) {
            boolean good = one(depth);
            for (int k = 0; k < MOST_ONES && good && token == Token.AND; k++) {
                advance();
                good = one(depth);
                paper.addStep(STEP_AND, 0, 0);
            }
            return good;
        }

        private boolean one(int depth) {
            if (!token.beginsOne()) {
                return blame(FAULT_TOKEN);
            }
            if (ones >= MOST_ONES || depth > MOST_DEPTH) {
                return blame(FAULT_ONES);
            }
            ones++;
            Token begun = token;
            advance();
            if (begun == Token.NOT) {
                boolean good = one(depth + 1);
                paper.addStep(STEP_NOT, 0, 0);
                return good;
            }
            if (begun == Token.OPEN) {
                return cond(depth + 1) && passes(Token.CLOSE);
            }
            if (begun.sort == MEASURE) {
                return measure(begun.code);
            }
            paper.addStep(begun.code, 0, 0);
            return true;
        }

        private boolean measure(int code) {
            if (token.sort != SIGN) {
                return blame(FAULT_TOKEN);
            }
            int sign = token.code;
            advance();
            if (token != Token.NUMBER) {
                return blame(FAULT_TOKEN);
            }
            paper.addStep(code, sign, number);
            advance();
            return true;
        }

        private boolean isNumber(int least, int most) {
            if (token != Token.NUMBER) {
                return blame(FAULT_TOKEN);
            }
            return within(number, least, most) || blame(FAULT_NUMBER);
        }

        private boolean passes(Token due) {
            if (token != due) {
                return blame(FAULT_TOKEN);
            }
            advance();
            return true;
        }

        private void advance() {
            while (at < size && (tape[at] == ' ' || tape[at] == '\n')) {
                at++;
            }
            place = at;
            if (at >= MOST_TEXT && size > MOST_TEXT) {
                place = MOST_TEXT;
                token = Token.BAD;
                return;
            }
            if (at >= size) {
                token = Token.FINISH;
                return;
            }
            at++;
            if (isDigit(tape[place]) || isLetter(tape[place])) {
                while (at < size && (isDigit(tape[at]) || isLetter(tape[at]))) {
                    at++;
                }
            }
            token = isDigit(tape[place]) ? readNumber() : Token.find(tape, place, at);
        }

        private Token readNumber() {
            if (at - place > 5) {
                return Token.BAD;
            }
            number = 0;
            for (int k = place; k < at; k++) {
                if (!isDigit(tape[k])) {
                    return Token.BAD;
                }
                number = number * 10 + tape[k] - '0';
            }
            return Token.NUMBER;
        }

        private static boolean isDigit(int sign) {
            return sign >= '0' && sign <= '9';
        }

        private static boolean isLetter(int sign) {
            return sign >= 'a' && sign <= 'z';
        }
    }

    /** One bit for each DAY from one to another, both with it. */
    private static int daysBetween(int from, int to) {
        int days = 0;
        for (int d = from; d <= to && d < DAYS; d++) {
            days |= 1 << d;
        }
        return days;
    }

    // ---- what is there for all DAYS ----

    private static final class Opera {
        int hours;
        int stageSet;
        int need;
        int roles;
        boolean hasChorus;
        final int[] seats = new int[4];
        final int[] voice = new int[MOST_ROLES];
        final int[] strain = new int[MOST_ROLES];
        final int[] tongue = new int[MOST_ROLES];
        final int[] size = new int[MOST_ROLES];

        /** Takes SEATS and ROLES from the tape; false: they are not as told. */
        boolean readTape(int[] tape, int bytes) {
            if (bytes < 8 || bytes > 4 + 4 * MOST_ROLES || bytes % 4 != 0) {
                return false;
            }
            for (int g = 0; g < 4; g++) {
                seats[g] = tape[g];
                if (seats[g] > 40) {
                    return false;
                }
            }
            roles = bytes / 4 - 1;
            for (int r = 0; r < roles; r++) {
                if (!readRole(r, tape, 4 + 4 * r)) {
                    return false;
                }
            }
            return true;
        }

        private boolean readRole(int r, int[] tape, int from) {
            voice[r] = tape[from];
            strain[r] = tape[from + 1];
            tongue[r] = tape[from + 2];
            size[r] = tape[from + 3];
            return voice[r] <= 5 && within(strain[r], 1, 30) && tongue[r] <= 5 && size[r] <= 9;
        }
    }

    /** OPERAS, SINGERS with their CONTRACTS, the orchestra, the chorus. */
    private static final class House {
        int operas;
        int singers;
        int daily;
        int weekly;
        Contract spare = new Contract();
        final Opera[] opera = new Opera[MOST_OPERAS];
        final Contract[] contract = new Contract[MOST_SINGERS];
        final int[] voices = new int[MOST_SINGERS];
        final int[] tongues = new int[MOST_SINGERS];
        final int[] sizes = new int[MOST_SINGERS];
        final int[] oneHalf = new int[4];
        final int[] otherHalf = new int[4];

        House() {
            for (int o = 0; o < MOST_OPERAS; o++) {
                opera[o] = new Opera();
            }
            for (int s = 0; s < MOST_SINGERS; s++) {
                contract[s] = new Contract();
            }
        }

        boolean isOpera(int o) {
            return o >= 0 && o < operas;
        }

        boolean isRole(int o, int r) {
            return isOpera(o) && r >= 0 && r < opera[o].roles;
        }

        boolean isSinger(int s) {
            return s >= 0 && s < singers;
        }

        /** The HOURS of a CALL. */
        int length(int kind, int o) {
            if (kind == ROOM) {
                return 2;
            }
            return kind == MARKS ? 3 : opera[o].hours;
        }

        int sizesApart(int s, int o, int r) {
            return Math.abs(sizes[s] - opera[o].size[r]);
        }

        boolean suits(int s, int o, int r) {
            boolean sings = (voices[s] >> opera[o].voice[r] & 1) == 1;
            boolean speaks = (tongues[s] >> opera[o].tongue[r] & 1) == 1;
            return sings && speaks && sizesApart(s, o, r) <= 1;
        }

        boolean lacksPlayers(int o, int halves) {
            for (int g = 0; g < 4; g++) {
                int there = (halves & 1) * oneHalf[g] + (halves >> 1 & 1) * otherHalf[g];
                if (there < opera[o].seats[g]) {
                    return true;
                }
            }
            return false;
        }
    }

    /** CALLS, with their hours counted from the first DAY on, and THE ORDER of them. */
    private static final class Calls {
        int number;
        final int[] day = new int[MOST_CALLS];
        final int[] begin = new int[MOST_CALLS];
        final int[] finish = new int[MOST_CALLS];
        final int[] kind = new int[MOST_CALLS];
        final int[] opera = new int[MOST_CALLS];
        final int[] halves = new int[MOST_CALLS];
        final int[] order = new int[MOST_CALLS];

        boolean has(int c) {
            return c >= 0 && c < number;
        }

        void put(int onDay, int hour, int length, int ofKind, int ofOpera, int playing) {
            if (number >= MOST_CALLS) {
                return;
            }
            int c = number;
            day[c] = onDay;
            begin[c] = onDay * HOURS_A_DAY + hour;
            finish[c] = begin[c] + length;
            kind[c] = ofKind;
            opera[c] = ofOpera;
            halves[c] = playing;
            int at = number;
            for (; at > 0 && begin[order[at - 1]] > begin[c]; at--) {
                order[at] = order[at - 1];
            }
            order[at] = c;
            number++;
        }

        void dropLast() {
            if (number == 0) {
                return;
            }
            number--;
            int at = 0;
            while (at < number && order[at] != number) {
                at++;
            }
            for (; at < number; at++) {
                order[at] = order[at + 1];
            }
        }

        int hours(int c) {
            return finish[c] - begin[c];
        }

        boolean isLong(int c) {
            return kind[c] == FULL || kind[c] == NIGHT;
        }

        /** Whether a CALL AHEAD of another one is on when that one begins. */
        boolean isOnAt(int aheadOne, int c) {
            return finish[aheadOne] > begin[c];
        }

        /** Whether a CALL AHEAD is on the DAY of another one, or on one of the six ahead of that. */
        boolean inWeekOf(int aheadOne, int c) {
            return day[aheadOne] >= day[c] - WEEK_BACK;
        }

        /** The CALL of an OPERA with the least number; NONE: there is none. */
        int firstOf(int o) {
            for (int c = 0; c < number; c++) {
                if (opera[c] == o) {
                    return c;
                }
            }
            return NONE;
        }
    }

    // ---- what is told on a DAY ----

    /** What was told, each with its DAY, and what of it is KNOWN AS OF the DAY that was asked for last. */
    private static final class Ledger {
        int casts;
        private final int[] castSpot = new int[MOST_CASTS];
        private final int[] castSinger = new int[MOST_CASTS];
        private final int[] castDay = new int[MOST_CASTS];
        private final boolean[] castCovers = new boolean[MOST_CASTS];
        int ills;
        private final int[] illSinger = new int[MOST_ILL];
        private final int[] illDays = new int[MOST_ILL];
        private final int[] illTold = new int[MOST_ILL];
        int lessons;
        private final int[] lessonPart = new int[MOST_LESSONS];
        private final int[] lessonHours = new int[MOST_LESSONS];
        private final int[] lessonDay = new int[MOST_LESSONS];

        /** Who is CAST at each spot, who was ahead of the latest telling, and who is the COVER. */
        final int[] cast = new int[SPOTS];
        final int[] earlier = new int[SPOTS];
        final int[] cover = new int[SPOTS];
        /** One bit for each ROLE that a SINGER has in a CALL. */
        final int[] roles = new int[MOST_SINGERS * MOST_CALLS];
        /** One bit for each DAY on which a SINGER is ILL. */
        final int[] sick = new int[MOST_SINGERS];
        final int[] hours = new int[MOST_SINGERS * PARTS];

        void tellCast(int spot, int s, boolean asCover, int today) {
            if (casts < MOST_CASTS) {
                castSpot[casts] = spot;
                castSinger[casts] = s;
                castDay[casts] = today;
                castCovers[casts] = asCover;
                casts++;
            }
        }

        void tellIll(int s, int from, int to, int today) {
            if (ills < MOST_ILL) {
                illSinger[ills] = s;
                illDays[ills] = daysBetween(from, to);
                illTold[ills] = today;
                ills++;
            }
        }

        void tellLesson(int part, int more, int today) {
            if (lessons < MOST_LESSONS) {
                lessonPart[lessons] = part;
                lessonHours[lessons] = more;
                lessonDay[lessons] = today;
                lessons++;
            }
        }

        void know(int t) {
            Arrays.fill(cast, NONE);
            Arrays.fill(earlier, NONE);
            Arrays.fill(cover, NONE);
            Arrays.fill(roles, 0);
            Arrays.fill(sick, 0);
            Arrays.fill(hours, 0);
            for (int k = 0; k < casts && castDay[k] <= t; k++) {
                if (castCovers[k]) {
                    cover[castSpot[k]] = castSinger[k];
                } else {
                    assign(castSpot[k], castSinger[k]);
                }
            }
            for (int k = 0; k < ills && illTold[k] <= t; k++) {
                sick[illSinger[k]] |= illDays[k];
            }
            for (int k = 0; k < lessons && lessonDay[k] <= t; k++) {
                hours[lessonPart[k]] += lessonHours[k];
            }
        }

        /** One comes to a spot, in the place of who is there. */
        void assign(int spot, int s) {
            int c = spot / MOST_ROLES;
            int bit = 1 << spot % MOST_ROLES;
            int holder = cast[spot];
            if (holder != NONE) {
                roles[holder * MOST_CALLS + c] &= ~bit;
            }
            if (s != NONE) {
                roles[s * MOST_CALLS + c] |= bit;
            }
            earlier[spot] = holder;
            cast[spot] = s;
        }

        int rolesOf(int s, int c) {
            return roles[s * MOST_CALLS + c];
        }

        boolean isSick(int s, int day) {
            return (sick[s] >> day & 1) == 1;
        }

        boolean covers(int s, int c) {
            for (int r = 0; r < MOST_ROLES; r++) {
                if (cover[c * MOST_ROLES + r] == s) {
                    return true;
                }
            }
            return false;
        }

        boolean cameInstead(int s, int c) {
            for (int spot = c * MOST_ROLES; spot < (c + 1) * MOST_ROLES; spot++) {
                if (cast[spot] == s && earlier[spot] != NONE && earlier[spot] != s) {
                    return true;
                }
            }
            return false;
        }
    }

    // ---- the stage ----

    private static final int STAGE = 0;
    private static final int PLACES = 5;
    private static final int MOST_NEAR = 3;
    /** SET 0 at STAGE 0, 1 LEFT 1, 2 RIGHT 2, 3 BACK 3; the place of SET k counts 5 to the k. */
    private static final int FIRST_STAND = 430;
    private static final int STANDS = 625;
    private static final int STANDS_THAT_BE = 120;
    /** The places next to STAGE, LEFT, RIGHT, BACK, DOCK. */
    private static final int[] NEAR = {1, 2, 3, 0, 4, -1, 0, -1, -1, 0, 4, -1, 1, 3, -1};
    private static final int[] WORTH = {1, 5, 25, 125};

    /** All the ways in which the SETS can stand by now. */
    private static final class Wagons {
        private final boolean[] seen = new boolean[STANDS];
        private final int[] stands = new int[STANDS_THAT_BE];
        private int number;

        void reset() {
            for (int i = 0; i < STANDS; i++) {
                seen[i] = false;
            }
            number = 0;
            reach(FIRST_STAND);
        }

        private void reach(int stand) {
            if (stand >= 0 && stand < STANDS && !seen[stand] && number < STANDS_THAT_BE) {
                seen[stand] = true;
                stands[number] = stand;
                number++;
            }
        }

        /** So many MOVES at most are made. */
        void spread(int most) {
            int from = 0;
            for (int k = 0; k < most && from < number; k++) {
                int to = number;
                for (int i = from; i < to; i++) {
                    moveAll(stands[i]);
                }
                from = to;
            }
        }

        private void moveAll(int stand) {
            int free = freePlace(stand);
            if (free < 0 || free >= PLACES) {
                return;
            }
            for (int k = 0; k < MOST_NEAR; k++) {
                int from = NEAR[free * MOST_NEAR + k];
                for (int set = 0; set < WORTH.length; set++) {
                    if (placeOf(set, stand) == from) {
                        reach(stand + (free - from) * WORTH[set]);
                    }
                }
            }
        }

        private static int placeOf(int set, int stand) {
            return stand / WORTH[set] % PLACES;
        }

        private static int freePlace(int stand) {
            // The numbers of all five places make 10.
            int free = 10;
            for (int set = 0; set < WORTH.length; set++) {
                free -= placeOf(set, stand);
            }
            return free;
        }

        boolean canShow(int set) {
            for (int i = 0; i < number; i++) {
                if (placeOf(set, stands[i]) == STAGE) {
                    return true;
                }
            }
            return false;
        }

        /** Only the ways with a SET at STAGE stay. */
        void show(int set) {
            int staying = 0;
            for (int i = 0; i < number; i++) {
                if (placeOf(set, stands[i]) == STAGE) {
                    stands[staying] = stands[i];
                    staying++;
                } else {
                    seen[stands[i]] = false;
                }
            }
            number = staying;
        }

        int fewest(int set, int most) {
            reset();
            for (int k = 0; k <= most; k++) {
                if (canShow(set)) {
                    return k;
                }
                spread(1);
            }
            return NONE;
        }
    }

    // ---- what is WRONG ----

    private static final int VACANT = 7;
    private static final int UNSUITED = 8;
    private static final int UNREADY = 9;
    private static final int AWAY = 10;
    private static final int TWICE = 11;
    private static final int UNRESTED = 12;
    private static final int LONG_DAY = 13;
    private static final int LONG_WEEK = 14;
    private static final int OVERTIRED = 15;
    private static final int KINDS = 16;
    /** The kinds 8 and 10 to 15. */
    private static final int KINDS_OF_STEAD = 0xFD00;

    /** One SINGER's way through THE ORDER, by what the ledger knows. */
    private static final class Walk {
        private final House house;
        private final Calls calls;
        private final Ledger ledger;
        /** One bit for each kind that is WRONG at a spot. */
        final int[] bits = new int[SPOTS];
        private final int[] bitsBefore = new int[SPOTS];
        private final int[] own = new int[MOST_CALLS];
        private final int[] tiredness = new int[MOST_CALLS];
        private int owned;
        private final int[] facts = new int[FACTS];

        Walk(House house, Calls calls, Ledger ledger) {
            this.house = house;
            this.calls = calls;
            this.ledger = ledger;
        }

        int learnedBy(int s, int c, int r) {
            int o = calls.opera[c];
            int sum = ledger.hours[s * PARTS + o * MOST_ROLES + r];
            for (int k = 0; k < calls.number; k++) {
                boolean rehearses = calls.opera[k] == o && calls.kind[k] != NIGHT
                        && calls.finish[k] <= calls.begin[c];
                if (rehearses && (ledger.rolesOf(s, k) >> r & 1) == 1) {
                    sum += calls.hours(k);
                }
            }
            return sum;
        }

        int tiredAt(int s, int c) {
            int tired = 0;
            int hour = 0;
            for (int i = 0; i < calls.number; i++) {
                int k = calls.order[i];
                if (calls.begin[k] <= calls.begin[c] && ledger.rolesOf(s, k) != 0) {
                    tired = Math.max(0, tired - calls.begin[k] + hour) + load(s, k);
                    hour = calls.begin[k];
                }
            }
            return Math.max(0, tired - calls.begin[c] + hour);
        }

        /** By how much a CALL tires who is CAST in it. */
        private int load(int s, int c) {
            if (!calls.isLong(c)) {
                return 0;
            }
            Opera work = house.opera[calls.opera[c]];
            int mine = ledger.rolesOf(s, c);
            int sum = 0;
            for (int r = 0; r < work.roles; r++) {
                if ((mine >> r & 1) == 1) {
                    sum += work.strain[r];
                }
            }
            return calls.kind[c] == NIGHT ? 2 * sum : sum;
        }

        int feeOf(int s, int c) {
            boolean isCast = ledger.rolesOf(s, c) != 0;
            boolean isCover = ledger.covers(s, c);
            if (!isCast && !isCover || ledger.isSick(s, calls.day[c])) {
                return 0;
            }
            Arrays.fill(facts, 0);
            facts[calls.kind[c]] = 1;
            facts[FACT_LATE] = calls.finish[c] - calls.day[c] * HOURS_A_DAY > 22 ? 1 : 0;
            facts[FACT_COVER] = isCover ? 1 : 0;
            facts[FACT_HOURS] = calls.hours(c);
            if (isCast) {
                facts[FACT_INSTEAD] = ledger.cameInstead(s, c) ? 1 : 0;
                countUpTo(s, c);
            }
            return house.contract[s].payFor(facts);
        }

        /** Puts nth and over of a CALL of one's among the facts. */
        private void countUpTo(int s, int c) {
            int nights = 0;
            int hours = 0;
            boolean passed = false;
            for (int i = 0; i < calls.number && !passed; i++) {
                int k = calls.order[i];
                if (ledger.rolesOf(s, k) != 0) {
                    nights += calls.kind[k] == NIGHT ? 1 : 0;
                    hours += calls.day[k] == calls.day[c] ? calls.hours(k) : 0;
                }
                passed = k == c;
            }
            facts[FACT_NTH] = calls.kind[c] == NIGHT ? nights : 0;
            facts[FACT_OVER] = Math.max(0, hours - house.contract[s].limits[LIMIT_DAY]);
        }

        /** Puts what is WRONG by kinds 8 to 15 at the spots of a SINGER. */
        void inspect(int s) {
            collectOwn(s);
            Contract paper = house.contract[s];
            for (int i = 0; i < owned; i++) {
                int c = own[i];
                int ofCall = bitsOfCall(i, paper);
                if ((paper.daysAway >> calls.day[c] & 1) == 1 || ledger.isSick(s, calls.day[c])) {
                    ofCall |= 1 << AWAY;
                }
                int mine = ledger.rolesOf(s, c);
                for (int r = 0; r < MOST_ROLES; r++) {
                    if ((mine >> r & 1) == 1) {
                        bits[c * MOST_ROLES + r] = ofCall | bitsOfRole(s, c, r, mine);
                    }
                }
            }
        }

        /** One's CALLS in THE ORDER, and how TIRED one is when each has begun. */
        private void collectOwn(int s) {
            owned = 0;
            int tired = 0;
            int hour = 0;
            for (int i = 0; i < calls.number; i++) {
                int c = calls.order[i];
                if (ledger.rolesOf(s, c) != 0) {
                    tired = Math.max(0, tired - calls.begin[c] + hour) + load(s, c);
                    hour = calls.begin[c];
                    own[owned] = c;
                    tiredness[owned] = tired;
                    owned++;
                }
            }
            // What begins at one hour has begun for all that do.
            for (int i = owned - 2; i >= 0; i--) {
                if (calls.begin[own[i]] == calls.begin[own[i + 1]]) {
                    tiredness[i] = tiredness[i + 1];
                }
            }
        }

        /** Kinds 11 (for a CALL that is on) to 15 of one's i-th CALL. */
        private int bitsOfCall(int i, Contract paper) {
            int c = own[i];
            int found = 0;
            int latestLong = NONE;
            int hours = calls.hours(c);
            int nights = 1;
            for (int j = 0; j < i; j++) {
                int k = own[j];
                latestLong = calls.isLong(k) ? k : latestLong;
                hours += calls.day[k] == calls.day[c] ? calls.hours(k) : 0;
                nights += calls.kind[k] == NIGHT && calls.inWeekOf(k, c) ? 1 : 0;
                found |= calls.isOnAt(k, c) ? 1 << TWICE : 0;
            }
            if (latestLong != NONE && calls.day[latestLong] != calls.day[c]
                    && calls.begin[c] - calls.finish[latestLong] < paper.limits[LIMIT_REST]) {
                found |= 1 << UNRESTED;
            }
            if (hours > paper.limits[LIMIT_DAY] + 4) {
                found |= 1 << LONG_DAY;
            }
            if (calls.kind[c] == NIGHT && nights > paper.limits[LIMIT_WEEK]) {
                found |= 1 << LONG_WEEK;
            }
            if (tiredness[i] > paper.limits[LIMIT_VOICE]) {
                found |= 1 << OVERTIRED;
            }
            return found;
        }

        /** Kinds 8, 9, 11 (for a lesser ROLE) of one of one's ROLES. */
        private int bitsOfRole(int s, int c, int r, int mine) {
            int o = calls.opera[c];
            int found = 0;
            if (!house.suits(s, o, r)) {
                found |= 1 << UNSUITED;
            }
            if (calls.kind[c] == NIGHT && learnedBy(s, c, r) < house.opera[o].need) {
                found |= 1 << UNREADY;
            }
            if ((mine & (1 << r) - 1) != 0) {
                found |= 1 << TWICE;
            }
            return found;
        }

        /** Whether nothing of one's is more WRONG, by the kinds of a stead, if one comes to a spot. */
        boolean fits(int s, int c, int r) {
            if (ledger.rolesOf(s, c) != 0) {
                return false;
            }
            int spot = c * MOST_ROLES + r;
            int holder = ledger.cast[spot];
            int before = ledger.earlier[spot];
            Arrays.fill(bits, 0);
            inspect(s);
            System.arraycopy(bits, 0, bitsBefore, 0, SPOTS);
            ledger.assign(spot, s);
            Arrays.fill(bits, 0);
            inspect(s);
            ledger.assign(spot, holder);
            ledger.earlier[spot] = before;
            for (int i = 0; i < SPOTS; i++) {
                if ((bits[i] & ~bitsBefore[i] & KINDS_OF_STEAD) != 0) {
                    return false;
                }
            }
            return true;
        }

        /** HARM of one at a spot; NONE: one is CAST in the CALL. */
        int harmOf(int s, int c, int r) {
            if (ledger.rolesOf(s, c) != 0) {
                return NONE;
            }
            int o = calls.opera[c];
            int spot = c * MOST_ROLES + r;
            int holder = ledger.cast[spot];
            int before = ledger.earlier[spot];
            ledger.assign(spot, s);
            int fee = feeOf(s, c);
            ledger.assign(spot, holder);
            ledger.earlier[spot] = before;
            int lacking = Math.max(0, house.opera[o].need - learnedBy(s, c, r));
            int strange = ledger.cover[spot] == s ? 0 : 100;
            return strange + 10 * lacking + 3 * house.sizesApart(s, o, r) + fee / 100;
        }
    }

    /** Finds all that is WRONG by what the ledger knows. */
    private static final class Judge {
        private final House house;
        private final Calls calls;
        private final Ledger ledger;
        private final Wagons wagons;
        final Walk walk;
        /** One bit for each of the kinds 1 to 6 that is WRONG of a CALL. */
        final int[] bits = new int[MOST_CALLS];

        Judge(House house, Calls calls, Ledger ledger, Wagons wagons, Walk walk) {
            this.house = house;
            this.calls = calls;
            this.ledger = ledger;
            this.wagons = wagons;
            this.walk = walk;
        }

        void run() {
            Arrays.fill(bits, 0);
            Arrays.fill(walk.bits, 0);
            for (int i = 0; i < calls.number; i++) {
                int c = calls.order[i];
                judgeStage(i);
                judgeReadiness(c);
                judgePlayers(i);
                judgeChorus(i);
                judgeVacant(c);
            }
            judgeSets();
            for (int s = 0; s < house.singers; s++) {
                walk.inspect(s);
            }
        }

        /** Puts all that is WRONG in a list, each as kind, ROLE and 1, CALL: how many they are. */
        int list(int[] into) {
            int size = 0;
            for (int i = 0; i < calls.number; i++) {
                int c = calls.order[i];
                for (int kind = 1; kind < KINDS; kind++) {
                    if ((bits[c] >> kind & 1) == 1 && size < into.length) {
                        into[size] = c * 256 + kind;
                        size++;
                    }
                    for (int r = 0; r < MOST_ROLES && kind >= VACANT; r++) {
                        if ((walk.bits[c * MOST_ROLES + r] >> kind & 1) == 1 && size < into.length) {
                            into[size] = c * 256 + (r + 1) * 16 + kind;
                            size++;
                        }
                    }
                }
            }
            return size;
        }

        /** Kind 1. */
        private void judgeStage(int i) {
            int c = calls.order[i];
            if (calls.kind[c] == ROOM) {
                return;
            }
            int marks = 0;
            int longOnes = 0;
            for (int j = 0; j < i; j++) {
                int k = calls.order[j];
                if (calls.isOnAt(k, c)) {
                    marks += calls.kind[k] == MARKS ? 1 : 0;
                    longOnes += calls.isLong(k) ? 1 : 0;
                }
            }
            int marksBorne = calls.kind[c] == MARKS ? 1 : 0;
            if (longOnes > 0 || marks > marksBorne) {
                bits[c] |= 1 << 1;
            }
        }

        /** Kind 2: the ways in which the SETS can stand go along with THE ORDER. */
        private void judgeSets() {
            wagons.reset();
            int free = 0;
            int busyTo = 0;
            for (int i = 0; i < calls.number; i++) {
                int c = calls.order[i];
                if (calls.kind[c] == ROOM) {
                    continue;
                }
                free += Math.max(0, calls.begin[c] - busyTo);
                busyTo = Math.max(busyTo, calls.finish[c]);
                if (calls.isLong(c)) {
                    wagons.spread(free);
                    free = 0;
                    int set = house.opera[calls.opera[c]].stageSet;
                    if (wagons.canShow(set)) {
                        wagons.show(set);
                    } else {
                        bits[c] |= 1 << 2;
                    }
                }
            }
        }

        /** Kind 3. */
        private void judgeReadiness(int c) {
            if (calls.kind[c] != NIGHT) {
                return;
            }
            int o = calls.opera[c];
            int afterRoom = firstEnd(o, ROOM, 0);
            int afterMarks = firstEnd(o, MARKS, afterRoom);
            int afterFull = firstEnd(o, FULL, afterMarks);
            if (afterFull > calls.begin[c]) {
                bits[c] |= 1 << 3;
            }
        }

        /** When the first one of a KIND that begins at an hour or later has ended; never: behind all DAYS. */
        private int firstEnd(int o, int kind, int from) {
            int first = DAYS * HOURS_A_DAY + 1;
            for (int c = 0; c < calls.number; c++) {
                if (calls.opera[c] == o && calls.kind[c] == kind && calls.begin[c] >= from) {
                    first = Math.min(first, calls.finish[c]);
                }
            }
            return first;
        }

        /** Kinds 4 and 5. */
        private void judgePlayers(int i) {
            int c = calls.order[i];
            if (calls.isLong(c) && house.lacksPlayers(calls.opera[c], calls.halves[c])) {
                bits[c] |= 1 << 4;
            }
            for (int j = 0; j < i; j++) {
                int k = calls.order[j];
                if (calls.isOnAt(k, c) && (calls.halves[k] & calls.halves[c]) != 0) {
                    bits[c] |= 1 << 5;
                }
            }
        }

        /** Kind 6. */
        private void judgeChorus(int i) {
            int c = calls.order[i];
            if (!needsChorus(c)) {
                return;
            }
            int onDay = 0;
            int inWeek = 0;
            for (int j = 0; j <= i; j++) {
                int k = calls.order[j];
                if (needsChorus(k)) {
                    onDay += calls.day[k] == calls.day[c] ? calls.hours(k) : 0;
                    inWeek += calls.inWeekOf(k, c) ? calls.hours(k) : 0;
                }
            }
            if (onDay > house.daily || inWeek > house.weekly) {
                bits[c] |= 1 << 6;
            }
        }

        private boolean needsChorus(int c) {
            return calls.kind[c] != ROOM && house.opera[calls.opera[c]].hasChorus;
        }

        /** Kind 7. */
        private void judgeVacant(int c) {
            int roles = house.opera[calls.opera[c]].roles;
            for (int r = 0; r < roles; r++) {
                int spot = c * MOST_ROLES + r;
                if (ledger.cast[spot] == NONE) {
                    walk.bits[spot] |= 1 << VACANT;
                }
            }
        }
    }

    /** Lays NIGHTS: tries DAYS one behind the other, and goes back where none holds. */
    private static final class Layer {
        private final House house;
        private final Calls calls;
        private final Ledger ledger;
        private final Judge judge;
        private final int[] wished = new int[MOST_NIGHTS];
        private final int[] source = new int[MOST_NIGHTS];
        private final int[] callBits = new int[MOST_CALLS];
        private final int[] spotBits = new int[SPOTS];
        private int wishes;
        private int hour;
        final int[] day = new int[MOST_NIGHTS];
        /** How many were LAID by the latest lay(). */
        int nights;
        /** Whether these were not kept, and nothing was told since. */
        boolean fresh;

        Layer(House house, Calls calls, Ledger ledger, Judge judge) {
            this.house = house;
            this.calls = calls;
            this.ledger = ledger;
            this.judge = judge;
        }

        void forget() {
            nights = 0;
            fresh = false;
        }

        /** Takes the wished OPERAS from the tape; false: they are not as told. */
        boolean wish(int[] tape, int bytes, int atHour) {
            if (!within(bytes, 1, MOST_NIGHTS) || calls.number + bytes > MOST_CALLS || atHour < 0) {
                return false;
            }
            for (int k = 0; k < bytes; k++) {
                if (!house.isOpera(tape[k]) || atHour > HOURS_A_DAY - house.opera[tape[k]].hours) {
                    return false;
                }
                wished[k] = tape[k];
                source[k] = calls.firstOf(tape[k]);
            }
            wishes = bytes;
            hour = atHour;
            return true;
        }

        /** How many tries were made; 0: there is no way; -2: it is given up. */
        int search(int first, int last) {
            judge.run();
            System.arraycopy(judge.bits, 0, callBits, 0, MOST_CALLS);
            System.arraycopy(judge.walk.bits, 0, spotBits, 0, SPOTS);
            int before = calls.number;
            int tries = 0;
            int placed = 0;
            day[0] = first - 1;
            // Each step is a try, or undoes one that held.
            for (int step = 0; step <= 2 * MOST_TRIES + 1 && placed >= 0 && placed < wishes; step++) {
                day[placed]++;
                if (day[placed] > last) {
                    placed--;
                    takeBack(before);
                } else if (tries == MOST_TRIES) {
                    tries++;
                    break;
                } else {
                    tries++;
                    placeNight(placed);
                    judge.run();
                    if (holds(before)) {
                        placed++;
                        startBehind(placed);
                    } else {
                        takeBack(before);
                    }
                }
            }
            for (int k = 0; k < MOST_NIGHTS; k++) {
                takeBack(before);
            }
            return outcome(placed, tries);
        }

        private int outcome(int placed, int tries) {
            if (tries > MOST_TRIES) {
                return GIVEN_UP;
            }
            if (placed < wishes) {
                return 0;
            }
            nights = wishes;
            fresh = true;
            return tries;
        }

        private void startBehind(int k) {
            if (k > 0 && k < wishes) {
                day[k] = day[k - 1];
            }
        }

        private void placeNight(int k) {
            int c = calls.number;
            if (c >= MOST_CALLS) {
                return;
            }
            putNight(k);
            for (int r = 0; r < MOST_ROLES; r++) {
                ledger.assign(c * MOST_ROLES + r, sourceSinger(k, r));
            }
        }

        private void putNight(int k) {
            calls.put(day[k], hour, house.opera[wished[k]].hours, NIGHT, wished[k], 3);
        }

        private int sourceSinger(int k, int r) {
            return source[k] == NONE ? NONE : ledger.cast[source[k] * MOST_ROLES + r];
        }

        /** The NIGHT tried last, if there is one, is there no more. */
        private void takeBack(int before) {
            if (calls.number <= before) {
                return;
            }
            calls.dropLast();
            for (int r = 0; r < MOST_ROLES; r++) {
                ledger.assign(calls.number * MOST_ROLES + r, NONE);
            }
        }

        /** Whether the judge found nothing WRONG of the NIGHTS, and nothing more of what was there before. */
        private boolean holds(int before) {
            for (int c = 0; c < calls.number; c++) {
                if ((judge.bits[c] & ~(c < before ? callBits[c] : 0)) != 0) {
                    return false;
                }
            }
            for (int spot = 0; spot < calls.number * MOST_ROLES; spot++) {
                int borne = spot < before * MOST_ROLES ? spotBits[spot] : 0;
                if ((judge.walk.bits[spot] & ~borne) != 0) {
                    return false;
                }
            }
            return true;
        }

        int castsToTell() {
            int sum = 0;
            for (int k = 0; k < nights; k++) {
                for (int r = 0; r < MOST_ROLES; r++) {
                    sum += sourceSinger(k, r) == NONE ? 0 : 1;
                }
            }
            return sum;
        }

        void tellNights(int today) {
            for (int k = 0; k < nights; k++) {
                int c = calls.number;
                putNight(k);
                for (int r = 0; r < MOST_ROLES; r++) {
                    if (sourceSinger(k, r) != NONE) {
                        ledger.tellCast(c * MOST_ROLES + r, sourceSinger(k, r), false, today);
                    }
                }
            }
        }
    }
}
