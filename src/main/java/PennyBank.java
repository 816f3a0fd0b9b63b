import java.util.Arrays;
import java.util.NoSuchElementException;

/** A penny bank of small savers; ../shared/DOC.md says what each call does and answers. */
public final class PennyBank {
    /** None. */
    public static final int NONE = -1;

    private static final int LAST_DAY = 719;
    private static final int MONTH_DAYS = 30;
    private static final int MONTHS = 24;
    private static final int MOST_DAYS_AT_ONCE = 200;

    private static final int MOST_ACCOUNTS = 20;
    private static final int MOST_ENTRIES = 400;
    private static final int MOST_SUM = 100000;
    private static final int MOST_NOTICES = 60;
    private static final int MOST_LINES_IN_BOOK = 40;
    private static final int BRANCHES = 4;
    private static final int MOST_COUNTED = 10000000;

    private static final int PLAIN = 0;
    private static final int MINOR = 1;
    private static final int CLUB = 2;
    private static final int NOTICE = 3;

    /** Interest is told on whole pounds, of so many pence. */
    private static final int POUND = 240;
    private static final int HUNDRED = 100;

    private static final int MOST_SIGNS = 600;
    private static final int MOST_TEXTS = 8;
    private static final int MOST_LINES = 16;
    private static final int MOST_WITHIN = 5;
    private static final int MOST_LETTERS = 8;
    private static final int MOST_DIGITS = 5;

    private static final int MOST_HOLDINGS = 6;
    private static final int WEEKS = 6;
    private static final int KEPT = WEEKS;
    private static final int MOST_PRICE = 10000;
    private static final int MOST_NEED = 60000;

    // Tokens: a number is itself, so all others are below 0.
    private static final int END = -1;
    private static final int NO_TOKEN = -2;
    private static final int INTEREST = -3;
    private static final int LIMIT = -4;
    private static final int WHEN = -5;
    private static final int AND = -6;
    private static final int KIND = -7;
    private static final int BASE = -8;
    private static final int AGE = -9;
    private static final int MONTH = -10;
    private static final int DAY = -11;
    private static final int OPEN = -12;
    private static final int CLOSE = -13;
    private static final int LESS = -14;
    private static final int EQUAL = -15;
    private static final int PLUS = -16;
    private static final int MINUS = -17;
    private static final int SEMICOLON = -18;

    // Why a sum may not be drawn.
    private static final int NO_SUCH = 1;
    private static final int TOO_LITTLE_THERE = 2;
    private static final int NOT_SIGNED = 3;
    private static final int NO_NOTICE = 4;
    private static final int ABOVE_LIMIT = 5;
    private static final int NOT_POSTABLE = 6;

    private final Account[] accounts;
    private final Entries entries;
    private final Tape tape;
    private final Grammar grammar;
    private final Texts texts;
    private final Judge judge;
    private final Reckoner reckoner;
    private final Notices notices;
    private final Coins coins;
    private final Holdings holdings;
    private int accountCount;
    private int now;

    public PennyBank() {
        accounts = new Account[MOST_ACCOUNTS];
        entries = new Entries();
        tape = new Tape();
        grammar = new Grammar();
        texts = new Texts();
        judge = new Judge();
        reckoner = new Reckoner(entries, texts, judge);
        notices = new Notices();
        coins = new Coins();
        holdings = new Holdings();
    }

    public int account(int kind, int with) {
        if (kind < PLAIN || kind > NOTICE || accountCount >= MOST_ACCOUNTS) {
            return NONE;
        }
        if ((kind == MINOR || kind == NOTICE) && !isDay(with)) {
            return NONE;
        }
        accounts[accountCount] = new Account(accountCount, kind, with, now);
        accountCount++;
        return accountCount - 1;
    }

    public int days(int n) {
        if (n < 0 || n > MOST_DAYS_AT_ONCE || now + n > LAST_DAY) {
            return NONE;
        }
        now += n;
        return now;
    }

    public int post(int account, int branch, int day, int sum) {
        if (accountOf(account) == null || !isBranch(branch) || !isPassed(day)) {
            return NONE;
        }
        if (sum == 0 || sum < -MOST_SUM || sum > MOST_SUM || entries.isFull()) {
            return NONE;
        }
        return enter(account, branch, day, sum);
    }

    public int feed(long a, long b, long c) {
        tape.takeBytes(a);
        tape.takeBytes(b);
        tape.takeBytes(c);
        return tape.size;
    }

    public int text(int day) {
        int answer = NONE;
        if (isDay(day) && texts.mayFollow(day)) {
            answer = grammar.faultOf(tape);
            if (answer == 0) {
                texts.keep(new RuleText(day, now, grammar.tokensRead()));
            }
        }
        tape.makeEmpty();
        return answer;
    }

    public int balance(int account, int day, int known) throws NoSuchElementException {
        Account saver = accountOf(account);
        if (saver == null || !isDay(day) || !isPassed(known)) {
            throw new NoSuchElementException("no such account or days");
        }
        return reckoner.balanceAt(saver, day, known);
    }

    public int interest(int account, int month, int known) throws NoSuchElementException {
        Account saver = accountOf(account);
        if (saver == null || month < 0 || month >= MONTHS || !isPassed(known)) {
            throw new NoSuchElementException("no such account, month or day");
        }
        return reckoner.earnedIn(saver, month, known);
    }

    public int may(int account, int sum, int signers) {
        return whyNot(accountOf(account), sum, signers);
    }

    public int draw(int account, int branch, int sum, int signers) {
        Account saver = accountOf(account);
        int reason = whyNot(saver, sum, signers);
        if (reason != 0 || saver == null) {
            return reason;
        }
        if (!isBranch(branch) || entries.isFull()) {
            return NOT_POSTABLE;
        }
        if (saver.kind == NOTICE) {
            notices.use(notices.eldest(account, sum, now - saver.with));
        }
        enter(account, branch, now, -sum);
        return 0;
    }

    public boolean notice(int account, int sum) {
        Account saver = accountOf(account);
        if (saver == null || saver.kind != NOTICE || !isDrawable(sum)) {
            return false;
        }
        return notices.give(account, sum, now);
    }

    public int write(int account, int day, int sum) {
        Account saver = accountOf(account);
        if (saver == null || !isDay(day)) {
            return NONE;
        }
        return saver.addLine(day, sum);
    }

    public int compare(int account, int what) {
        Account saver = accountOf(account);
        if (saver == null || what < 0 || what > 2) {
            return NONE;
        }
        int pairs = saver.pairsWith(entries);
        switch (what) {
            case 0:
                return pairs;
            case 1:
                return saver.lines - pairs;
            default:
                return entries.countOf(account) - pairs;
        }
    }

    public int settle(int account) throws NoSuchElementException {
        Account saver = accountOf(account);
        if (saver == null) {
            throw new NoSuchElementException("no such account");
        }
        int difference = reckoner.earnedAhead(saver, now, now) - saver.settled;
        saver.settled += difference;
        return difference;
    }

    public int night(int branch, int counted) throws NoSuchElementException {
        if (!isBranch(branch) || counted < 0 || counted > MOST_COUNTED) {
            throw new NoSuchElementException("no such branch or number");
        }
        return coins.countedAs(branch, counted);
    }

    public int coin(int branch) throws NoSuchElementException {
        if (!isBranch(branch)) {
            throw new NoSuchElementException("no such branch");
        }
        return coins.at[branch];
    }

    public int holding(int price, int change) {
        return holdings.add(price, change);
    }

    public boolean need(int week, int sum) {
        return holdings.setNeed(week, sum);
    }

    public int best() {
        return holdings.findBest();
    }

    public int sold(int holding) {
        return holdings.weekOf(holding);
    }

    public int count(int what) {
        switch (what) {
            case 0:
                return accountCount;
            case 1:
                return entries.size;
            case 2:
                return now;
            case 3:
                return texts.size;
            case 4:
                return notices.size;
            case 5:
                return holdings.size;
            case 6:
                return tape.size;
            case 7:
                return coins.overInAll;
            default:
                return NONE;
        }
    }

    private Account accountOf(int number) {
        return number < 0 || number >= accountCount || number >= accounts.length ? null : accounts[number];
    }

    private boolean isPassed(int day) {
        return day >= 0 && day <= now;
    }

    /** A branch is told by its coin alone, so that the ledger need not keep it. */
    private int enter(int account, int branch, int day, int sum) {
        coins.move(branch, sum);
        return entries.add(account, day, sum, now);
    }

    /** 0, or the first reason for which the sum may not be drawn on the day NOW. */
    private int whyNot(Account saver, int sum, int signers) {
        if (saver == null || !isDrawable(sum)) {
            return NO_SUCH;
        }
        if (reckoner.balanceAt(saver, now, now) < sum) {
            return TOO_LITTLE_THERE;
        }
        if (!saver.isSigned(signers, now)) {
            return NOT_SIGNED;
        }
        if (saver.kind == NOTICE && notices.eldest(saver.number, sum, now - saver.with) == NONE) {
            return NO_NOTICE;
        }
        int limit = limitFor(saver, reckoner.balanceAt(saver, now - 1, now));
        if (limit != NONE && entries.drawnOn(saver.number, now) + sum > limit) {
            return ABOVE_LIMIT;
        }
        return 0;
    }

    /** The limit of the day NOW, NONE without one; the balance is that of the day ahead. */
    private int limitFor(Account saver, int balanceAhead) {
        RuleText text = texts.inForce(now, now);
        if (text == null) {
            return NONE;
        }
        judge.look(saver, balanceAhead < 0 ? 0 : balanceAhead / POUND, now);
        return judge.numberOf(text.tokens, LIMIT);
    }

    private static boolean isDay(int day) {
        return day >= 0 && day <= LAST_DAY;
    }

    private static boolean isBranch(int branch) {
        return branch >= 0 && branch < BRANCHES;
    }

    private static boolean isDrawable(int sum) {
        return sum >= 1 && sum <= MOST_SUM;
    }

    /** A saver's account with its passbook. */
    private static final class Account {
        final int number;
        final int kind;
        final int with;
        final int opened;
        final int[] lineDays;
        final int[] lineSums;
        int lines;
        /** What was written as interest so far. */
        int settled;

        Account(int number, int kind, int with, int opened) {
            this.number = number;
            this.kind = kind;
            this.with = with;
            this.opened = opened;
            lineDays = new int[MOST_LINES_IN_BOOK];
            lineSums = new int[MOST_LINES_IN_BOOK];
        }

        boolean isSigned(int signers, int today) {
            if (kind == CLUB) {
                return Integer.bitCount(signers & 7) >= 2;
            }
            if (kind == MINOR && today < with) {
                return (signers & 8) != 0;
            }
            return (signers & 1) != 0;
        }

        int addLine(int day, int sum) {
            if (lines >= MOST_LINES_IN_BOOK) {
                return NONE;
            }
            lineDays[lines] = day;
            lineSums[lines] = sum;
            lines++;
            return lines;
        }

        /** The n-th of some lines that are alike has a pair if there are n such entries. */
        int pairsWith(Entries entries) {
            int pairs = 0;
            for (int i = 0; i < lines; i++) {
                if (linesLike(i) <= entries.countAlike(number, lineDays[i], lineSums[i])) {
                    pairs++;
                }
            }
            return pairs;
        }

        /** How many lines up to this one are like it, itself too. */
        private int linesLike(int line) {
            int like = 0;
            for (int i = 0; i <= line; i++) {
                if (lineDays[i] == lineDays[line] && lineSums[i] == lineSums[line]) {
                    like++;
                }
            }
            return like;
        }
    }

    /** The ledger: all entries in the order in which they were posted. */
    private static final class Entries {
        final int[] accounts = new int[MOST_ENTRIES];
        final int[] days = new int[MOST_ENTRIES];
        final int[] sums = new int[MOST_ENTRIES];
        final int[] knownFrom = new int[MOST_ENTRIES];
        int size;

        boolean isFull() {
            return size >= MOST_ENTRIES;
        }

        int add(int account, int day, int sum, int known) {
            if (isFull()) {
                return NONE;
            }
            accounts[size] = account;
            days[size] = day;
            sums[size] = sum;
            knownFrom[size] = known;
            size++;
            return size - 1;
        }

        int countOf(int account) {
            int found = 0;
            for (int i = 0; i < size; i++) {
                if (accounts[i] == account) {
                    found++;
                }
            }
            return found;
        }

        int countAlike(int account, int day, int sum) {
            int found = 0;
            for (int i = 0; i < size; i++) {
                if (accounts[i] == account && days[i] == day && sums[i] == sum) {
                    found++;
                }
            }
            return found;
        }

        int drawnOn(int account, int day) {
            int drawn = 0;
            for (int i = 0; i < size; i++) {
                if (accounts[i] == account && days[i] == day && sums[i] < 0) {
                    drawn -= sums[i];
                }
            }
            return drawn;
        }

        /** Fills a row with what came and went on each day, as known on a day. */
        void gatherByDay(int account, int known, int[] row) {
            Arrays.fill(row, 0);
            for (int i = 0; i < size; i++) {
                if (accounts[i] == account && knownFrom[i] <= known && days[i] >= 0 && days[i] < row.length) {
                    row[days[i]] += sums[i];
                }
            }
        }
    }

    /** The signs that were fed, and the tokens that they make. */
    private static final class Tape {
        final char[] signs = new char[MOST_SIGNS];
        int size;
        /** Where the token that was read last begins. */
        int place;
        private int at;

        void takeBytes(long bytes) {
            for (int shift = 56; shift >= 0; shift -= 8) {
                int sign = (int) (bytes >>> shift) & 255;
                if ((sign == 10 || sign >= 32 && sign <= 126) && size < MOST_SIGNS) {
                    signs[size] = (char) sign;
                    size++;
                }
            }
        }

        void makeEmpty() {
            size = 0;
        }

        void rewind() {
            at = 0;
        }

        int nextToken() {
            while (at < size && (signs[at] == 10 || signs[at] == 32)) {
                at++;
            }
            place = at;
            if (at >= size) {
                return END;
            }
            if (isLetter(signs[at])) {
                return wordToken();
            }
            if (isDigit(signs[at])) {
                return numberToken();
            }
            at++;
            return signToken(signs[place]);
        }

        private int wordToken() {
            while (at < size && isLetter(signs[at])) {
                at++;
            }
            if (at - place > MOST_LETTERS) {
                return NO_TOKEN;
            }
            return isWord("interest") ? INTEREST
                : isWord("limit") ? LIMIT
                : isWord("when") ? WHEN
                : isWord("and") ? AND
                : isWord("kind") ? KIND
                : isWord("base") ? BASE
                : isWord("age") ? AGE
                : isWord("month") ? MONTH
                : isWord("day") ? DAY
                // Another word is a token, but as it can stand nowhere its fault is the same.
                : NO_TOKEN;
        }

        private boolean isWord(String word) {
            if (word.length() != at - place) {
                return false;
            }
            for (int i = 0; i < word.length(); i++) {
                if (signs[place + i] != word.charAt(i)) {
                    return false;
                }
            }
            return true;
        }

        private int numberToken() {
            int number = 0;
            while (at < size && isDigit(signs[at])) {
                if (at - place < MOST_DIGITS) {
                    number = number * 10 + (signs[at] - '0');
                }
                at++;
            }
            return at - place > MOST_DIGITS ? NO_TOKEN : number;
        }

        private static int signToken(char sign) {
            switch (sign) {
                case '(':
                    return OPEN;
                case ')':
                    return CLOSE;
                case '<':
                    return LESS;
                case '=':
                    return EQUAL;
                case '+':
                    return PLUS;
                case '-':
                    return MINUS;
                case ';':
                    return SEMICOLON;
                default:
                    return NO_TOKEN;
            }
        }

        private static boolean isLetter(char sign) {
            return sign >= 'a' && sign <= 'z';
        }

        private static boolean isDigit(char sign) {
            return sign >= '0' && sign <= '9';
        }
    }

    /** Reads a tape token by token; the state says what may stand next. */
    private static final class Grammar {
        private static final int AT_LINE = 0;
        private static final int AT_NUMBER = 1;
        private static final int AT_WHEN = 2;
        private static final int AT_PART = 3;
        private static final int BEHIND_PART = 4;

        private static final int CANT_STAND = 1;
        private static final int BAD_NUMBER = 4;
        private static final int TOO_MUCH = 5;
        private static final int FAULT_KINDS = 16;
        private static final int MOST_RATE = 100;

        private final int[] tokens = new int[MOST_SIGNS];
        private int size;
        private int state;
        private int lines;
        private int rule;
        /** How many brackets are open. */
        private int depth;
        /** Whether the test has its comparison already, by depth: it has one at most. */
        private final boolean[] compared = new boolean[MOST_WITHIN + 1];

        /** 0 for a text without a fault, whose tokens are kept. */
        int faultOf(Tape tape) {
            tape.rewind();
            size = 0;
            lines = 0;
            depth = 0;
            state = AT_LINE;
            // Each token but the end takes a sign.
            for (int i = 0; i < MOST_SIGNS; i++) {
                int token = tape.nextToken();
                if (state == AT_LINE && token == END) {
                    return 0;
                }
                int wrong = wrongness(token);
                if (wrong != 0) {
                    return wrong + FAULT_KINDS * tape.place;
                }
                tokens[i] = token;
                size = i + 1;
                step(token);
            }
            // All signs are taken, so that only the end is left.
            return state == AT_LINE ? 0 : CANT_STAND + FAULT_KINDS * MOST_SIGNS;
        }

        int[] tokensRead() {
            return Arrays.copyOf(tokens, size);
        }

        private int wrongness(int token) {
            switch (state) {
                case AT_LINE:
                    return token != INTEREST && token != LIMIT ? CANT_STAND : lines >= MOST_LINES ? TOO_MUCH : 0;
                case AT_NUMBER:
                    return token < 0 ? CANT_STAND : rule == INTEREST && token > MOST_RATE ? BAD_NUMBER : 0;
                case AT_WHEN:
                    return token != WHEN ? CANT_STAND : 0;
                case AT_PART:
                    return !beginsPart(token) ? CANT_STAND : depth >= MOST_WITHIN ? TOO_MUCH : 0;
                default:
                    return mayStandBehindPart(token) ? 0 : CANT_STAND;
            }
        }

        private static boolean beginsPart(int token) {
            return token >= 0 || token == OPEN || token == KIND || token == BASE || token == AGE
                || token == MONTH || token == DAY;
        }

        private boolean mayStandBehindPart(int token) {
            switch (token) {
                case PLUS:
                case MINUS:
                case AND:
                    return true;
                case LESS:
                case EQUAL:
                    return !compared[depth];
                case CLOSE:
                    return depth > 0;
                case SEMICOLON:
                    return depth == 0;
                default:
                    return false;
            }
        }

        private void step(int token) {
            switch (state) {
                case AT_LINE:
                    lines++;
                    rule = token;
                    state = AT_NUMBER;
                    break;
                case AT_NUMBER:
                    state = AT_WHEN;
                    break;
                case AT_WHEN:
                    compared[depth] = false;
                    state = AT_PART;
                    break;
                case AT_PART:
                    stepIntoPart(token);
                    break;
                default:
                    stepBehindPart(token);
            }
        }

        private void stepIntoPart(int token) {
            if (token != OPEN) {
                state = BEHIND_PART;
            } else if (depth < MOST_WITHIN) {
                depth++;
                compared[depth] = false;
            }
        }

        private void stepBehindPart(int token) {
            if (token == SEMICOLON) {
                state = AT_LINE;
            } else if (token != CLOSE) {
                if (token != PLUS && token != MINUS) {
                    compared[depth] = token != AND;
                }
                state = AT_PART;
            } else if (depth > 0) {
                depth--;
            }
        }
    }

    /** A text without a fault. */
    private static final class RuleText {
        final int from;
        final int knownFrom;
        final int[] tokens;

        RuleText(int from, int knownFrom, int[] tokens) {
            this.from = from;
            this.knownFrom = knownFrom;
            this.tokens = tokens;
        }
    }

    /** The texts, each from a day above the one ahead of it. */
    private static final class Texts {
        private final RuleText[] kept = new RuleText[MOST_TEXTS];
        int size;

        boolean mayFollow(int day) {
            if (size >= MOST_TEXTS) {
                return false;
            }
            RuleText latest = size == 0 ? null : kept[size - 1];
            return latest == null || day > latest.from;
        }

        void keep(RuleText text) {
            if (size < MOST_TEXTS) {
                kept[size] = text;
                size++;
            }
        }

        /** The text in force on a day, as known on a day; null without one. */
        RuleText inForce(int day, int known) {
            for (int i = size - 1; i >= 0; i--) {
                RuleText text = kept[i];
                if (text != null && text.from <= day && text.knownFrom <= known) {
                    return text;
                }
            }
            return null;
        }
    }

    /** Tells which line of a text applies, after it has looked at an account and a day. */
    private static final class Judge {
        private int kind;
        private int base;
        private int age;
        private int month;
        private int day;

        // What stands open within so many brackets.
        private int level;
        private final int[] sums = new int[MOST_WITHIN + 1];
        private final int[] signs = new int[MOST_WITHIN + 1];
        private final int[] lefts = new int[MOST_WITHIN + 1];
        /** LESS, EQUAL, or 0 ahead of both. */
        private final int[] relations = new int[MOST_WITHIN + 1];
        private final int[] tests = new int[MOST_WITHIN + 1];
        /** What the tests that have ended tell together. */
        private final int[] worths = new int[MOST_WITHIN + 1];

        void look(Account saver, int pounds, int onDay) {
            kind = saver.kind;
            base = pounds;
            age = onDay - saver.opened;
            month = onDay / MONTH_DAYS;
            day = onDay % MONTH_DAYS;
        }

        /** The number of the first line of a rule whose test is not 0; NONE without one. */
        int numberOf(int[] tokens, int rule) {
            int line = 0;
            for (int i = 0; i < tokens.length; i++) {
                boolean asked = tokens[line] == rule;
                if (i == line) {
                    level = 0;
                    clearLevel();
                } else if (tokens[i] == SEMICOLON) {
                    if (asked && endTest() != 0) {
                        return tokens[line + 1];
                    }
                    line = i + 1;
                } else if (asked && i > line + 2) {
                    take(tokens[i]);
                }
            }
            return NONE;
        }

        private void clearLevel() {
            sums[level] = 0;
            signs[level] = 1;
            relations[level] = 0;
            tests[level] = 0;
            worths[level] = 0;
        }

        private void take(int token) {
            int part;
            switch (token) {
                case OPEN:
                    level = level < MOST_WITHIN ? level + 1 : level;
                    clearLevel();
                    return;
                case CLOSE:
                    part = endTest();
                    level = level > 0 ? level - 1 : 0;
                    break;
                case AND:
                    endTest();
                    return;
                case LESS:
                case EQUAL:
                    compareWith(token);
                    return;
                case PLUS:
                    signs[level] = 1;
                    return;
                case MINUS:
                    signs[level] = -1;
                    return;
                default:
                    part = factOf(token);
            }
            sums[level] += signs[level] * part;
        }

        private int factOf(int token) {
            switch (token) {
                case KIND:
                    return kind;
                case BASE:
                    return base;
                case AGE:
                    return age;
                case MONTH:
                    return month;
                case DAY:
                    return day;
                default:
                    return token;
            }
        }

        private void compareWith(int relation) {
            lefts[level] = sums[level];
            relations[level] = relation;
            sums[level] = 0;
            signs[level] = 1;
        }

        /** Ends the level's latest test; answers what the level is worth so far. */
        private int endTest() {
            int test = sums[level];
            if (relations[level] == LESS) {
                test = lefts[level] < test ? 1 : 0;
            } else if (relations[level] == EQUAL) {
                test = lefts[level] == test ? 1 : 0;
            }
            worths[level] = tests[level] == 0 ? test : worths[level] != 0 && test != 0 ? 1 : 0;
            tests[level]++;
            sums[level] = 0;
            signs[level] = 1;
            relations[level] = 0;
            return worths[level];
        }
    }

    /** Balances and interest of an account, month by month from the first one on. */
    private static final class Reckoner {
        private final Entries entries;
        private final Texts texts;
        private final Judge judge;
        /** What came and went on each day. */
        private final int[] moved = new int[LAST_DAY + 1];
        private int balance;
        private int earned;
        private int earnedLast;

        Reckoner(Entries entries, Texts texts, Judge judge) {
            this.entries = entries;
            this.texts = texts;
            this.judge = judge;
        }

        int balanceAt(Account saver, int day, int known) {
            if (!isDay(day)) {
                return 0;
            }
            int months = day / MONTH_DAYS;
            reckon(saver, months, known);
            for (int i = months * MONTH_DAYS; i <= day; i++) {
                balance += moved[i];
            }
            return balance;
        }

        int earnedIn(Account saver, int month, int known) {
            reckon(saver, month + 1, known);
            return earnedLast;
        }

        /** The interest of all months whose last day is ahead of a day. */
        int earnedAhead(Account saver, int day, int known) {
            reckon(saver, day / MONTH_DAYS, known);
            return earned;
        }

        /** Goes through the first months; the balance is then the one behind their interest. */
        private void reckon(Account saver, int months, int known) {
            entries.gatherByDay(saver.number, known, moved);
            balance = 0;
            earned = 0;
            earnedLast = 0;
            for (int month = 0; month < months && month < MONTHS; month++) {
                int pounds = leastOf(month) / POUND;
                earnedLast = pounds < 1 ? 0 : pounds * rateOf(saver, month, pounds, known) / HUNDRED;
                earned += earnedLast;
                balance += earnedLast;
            }
        }

        /** Moves the balance through a month: the least one of its days' ends. */
        private int leastOf(int month) {
            int first = month * MONTH_DAYS;
            int least = balance + moved[first];
            for (int i = first; i < first + MONTH_DAYS; i++) {
                balance += moved[i];
                least = Math.min(least, balance);
            }
            return least;
        }

        private int rateOf(Account saver, int month, int pounds, int known) {
            int lastDay = month * MONTH_DAYS + MONTH_DAYS - 1;
            RuleText text = texts.inForce(lastDay, known);
            if (text == null) {
                return 0;
            }
            judge.look(saver, pounds, lastDay);
            return Math.max(0, judge.numberOf(text.tokens, INTEREST));
        }
    }

    /** Notices in the order in which they were given. */
    private static final class Notices {
        private final int[] accounts = new int[MOST_NOTICES];
        private final int[] sums = new int[MOST_NOTICES];
        private final int[] days = new int[MOST_NOTICES];
        private final boolean[] used = new boolean[MOST_NOTICES];
        int size;

        boolean give(int account, int sum, int day) {
            if (size >= MOST_NOTICES) {
                return false;
            }
            accounts[size] = account;
            sums[size] = sum;
            days[size] = day;
            size++;
            return true;
        }

        /** The first unused one of this sum or more, given on this day at the latest; or NONE. */
        int eldest(int account, int sum, int latestDay) {
            for (int i = 0; i < size; i++) {
                if (!used[i] && accounts[i] == account && sums[i] >= sum && days[i] <= latestDay) {
                    return i;
                }
            }
            return NONE;
        }

        void use(int number) {
            if (number >= 0 && number < size) {
                used[number] = true;
            }
        }
    }

    /** The branches' coin as it should be. */
    private static final class Coins {
        final int[] at = new int[BRANCHES];
        int overInAll;

        void move(int branch, int sum) {
            if (isBranch(branch)) {
                at[branch] += sum;
            }
        }

        /** How much is over, which is carried. */
        int countedAs(int branch, int counted) {
            if (!isBranch(branch)) {
                return 0;
            }
            int over = counted - at[branch];
            at[branch] = counted;
            overInAll += over;
            return over;
        }
    }

    /** Holdings, needs, and the best plan of sales. */
    private static final class Holdings {
        /** A plan has three bits for each holding's week, the first holding's highest. */
        private static final int WEEK_BITS = 3;
        private static final int WEEK_MASK = 7;
        private static final int PLAN_BITS = WEEK_BITS * MOST_HOLDINGS;
        private static final long UNREACHED = -1;

        private final int[] prices = new int[MOST_HOLDINGS];
        private final int[] changes = new int[MOST_HOLDINGS];
        private final int[] needs = new int[WEEKS];
        int size;

        private final int[] plan = new int[MOST_HOLDINGS];
        /** How many holdings the plan is for. */
        private int planned;

        /**
         * By the set of holdings that are gone: the sum that they brought, and below it their
         * plan. Of two ways to one set only the greater can become the best: what brought more
         * meets all needs that the other one meets, and of equal sums the later plan is due.
         */
        private final long[] reached = new long[1 << MOST_HOLDINGS];

        int add(int price, int change) {
            if (size >= MOST_HOLDINGS || !isPrice(price) || !isPrice(price + (WEEKS - 1L) * change)) {
                return NONE;
            }
            prices[size] = price;
            changes[size] = change;
            size++;
            return size - 1;
        }

        private static boolean isPrice(long price) {
            return price >= 1 && price <= MOST_PRICE;
        }

        boolean setNeed(int week, int sum) {
            if (week < 0 || week >= WEEKS || sum < 0 || sum > MOST_NEED) {
                return false;
            }
            needs[week] = sum;
            return true;
        }

        int weekOf(int holding) {
            return holding < 0 || holding >= planned || holding >= MOST_HOLDINGS ? NONE : plan[holding];
        }

        int findBest() {
            Arrays.fill(reached, UNREACHED);
            reached[0] = 0;
            int needed = 0;
            for (int week = 0; week < WEEKS; week++) {
                letGo(week);
                needed += needs[week];
                dropBelow(needed);
            }
            letGo(KEPT);
            long best = reached[(1 << size) - 1];
            if (best < 0) {
                return NONE;
            }
            keepPlan(best);
            return (int) (best >> PLAN_BITS);
        }

        /** Lets any holdings go in a week, or be kept: these count the last week's price. */
        private void letGo(int week) {
            int priceWeek = Math.min(week, WEEKS - 1);
            for (int holding = 0; holding < size; holding++) {
                long price = prices[holding] + priceWeek * changes[holding];
                long gain = (price << PLAN_BITS) + ((long) week << shiftOf(holding));
                int bit = 1 << holding;
                for (int set = 0; set < reached.length; set++) {
                    if ((set & bit) != 0 && reached[set ^ bit] >= 0) {
                        reached[set] = Math.max(reached[set], reached[set ^ bit] + gain);
                    }
                }
            }
        }

        private void dropBelow(int needed) {
            for (int set = 0; set < reached.length; set++) {
                if (reached[set] >> PLAN_BITS < needed) {
                    reached[set] = UNREACHED;
                }
            }
        }

        private void keepPlan(long best) {
            planned = size;
            for (int holding = 0; holding < size; holding++) {
                plan[holding] = (int) (best >> shiftOf(holding)) & WEEK_MASK;
            }
        }

        private static int shiftOf(int holding) {
            return WEEK_BITS * (MOST_HOLDINGS - 1 - holding);
        }
    }
}
