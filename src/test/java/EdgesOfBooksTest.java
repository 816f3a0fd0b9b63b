/** The boundary cases that the document names of write, compare and settle. */
public final class EdgesOfBooksTest {
    public static void main(String[] args) {
        noSuchAccountOrDay();
        anySum();
        fortyAreThere();
        wrongQuestions();
        nothingToCompare();
        oneDayAndSum();
        asManyAsCanBe();
        fullBook();
        asKnownNow();
        wrongSettlements();
        lastDayAhead();
        noMonthIsLeft();
        belowZeroOrZero();
        settledIsNoEntry();
        Check.end();
    }

    private static void compared(String when, PennyBank bank, int pairs, int lines, int entries) {
        Check.due(when + ": pairs", bank.compare(0, 0), pairs);
        Check.due(when + ": lines alone", bank.compare(0, 1), lines);
        Check.due(when + ": entries alone", bank.compare(0, 2), entries);
    }

    private static void noSuchAccountOrDay() {
        Check.sentence("Promise 12: NONE: no such ACCOUNT, a day below 0 or above 719");
        PennyBank bank = Check.withAccounts(2);
        for (int account : Check.beside(0, 1)) {
            Check.due("write to " + account, bank.write(account, 0, 1), -1);
        }
        for (int day : Check.beside(0, 719)) {
            Check.due("write of day " + day, bank.write(0, day, 1), -1);
        }
        compared("nothing is written", bank, 0, 0, 0);
        Check.due("of day 0", bank.write(0, 0, 1), 1);
        Check.due("of day 719, above NOW", bank.write(0, 719, 1), 2);
        Check.due("to account 1", bank.write(1, 0, 1), 1);
    }

    private static void anySum() {
        Check.sentence("Promise 12: A line comes into a passbook: how many (no sum is refused)");
        PennyBank bank = Check.withAccounts(1);
        int[] sums = {0, 1, -1, 100000, 100001, -100001, Integer.MAX_VALUE, Integer.MIN_VALUE};
        for (int i = 0; i < sums.length; i++) {
            Check.due("a line of " + sums[i], bank.write(0, 0, sums[i]), i + 1);
        }
        bank.post(0, 0, 0, 100000);
        compared("one has its pair", bank, 1, 7, 0);
    }

    private static void fortyAreThere() {
        Check.sentence("Promise 12: NONE: 40 are there");
        PennyBank bank = Check.withAccounts(2);
        for (int i = 1; i <= 39; i++) {
            Check.due("line " + i, bank.write(0, i, i), i);
            Check.due("a refused one does not count", bank.write(0, 720, i), -1);
        }
        Check.due("the 40th", bank.write(0, 0, 7), 40);
        Check.due("a 41st", bank.write(0, 0, 8), -1);
        compared("40 are there", bank, 0, 40, 0);
        bank.post(0, 0, 0, 7);
        compared("the 40th is one", bank, 1, 39, 0);
        bank.post(0, 0, 0, 8);
        compared("the 41st is none", bank, 1, 39, 1);
        for (int i = 1; i <= 40; i++) {
            Check.due("another book's line " + i, bank.write(1, 0, 1), i);
        }
        Check.due("another book's 41st", bank.write(1, 0, 1), -1);
    }

    private static void wrongQuestions() {
        Check.sentence("Promise 13: NONE: no such ACCOUNT, what");
        PennyBank bank = Check.withAccounts(2);
        bank.post(0, 0, 0, 5);
        for (int what : Check.beside(0, 2)) {
            Check.due("compare(0, " + what + ")", bank.compare(0, what), -1);
        }
        for (int account : Check.beside(0, 1)) {
            Check.due("compare(" + account + ", 0)", bank.compare(account, 0), -1);
        }
        Check.due("compare(0, 0)", bank.compare(0, 0), 0);
        Check.due("compare(0, 2)", bank.compare(0, 2), 1);
        Check.due("compare(1, 2)", bank.compare(1, 2), 0);
    }

    private static void nothingToCompare() {
        Check.sentence("4. BOOKS: COMPARED with its ENTRIES (a book or ledger that is empty)");
        PennyBank bank = Check.withAccounts(1);
        compared("both empty", bank, 0, 0, 0);
        bank.write(0, 0, 5);
        compared("one line", bank, 0, 1, 0);
        PennyBank other = Check.withAccounts(1);
        other.post(0, 0, 0, 5);
        compared("one entry", other, 0, 0, 1);
        other.write(0, 0, 5);
        compared("one of each", other, 1, 0, 0);
        PennyBank zero = Check.withAccounts(1);
        zero.write(0, 0, 0);
        compared("a line of 0 on day 0", zero, 0, 1, 0);
    }

    private static void oneDayAndSum() {
        Check.sentence("4. BOOKS: lines and ENTRIES of one day and sum are paired");
        int[][] lines = {{4, 70, 0}, {5, 70, 1}, {6, 70, 0}, {5, 69, 0}, {5, 71, 0}, {5, -70, 0}};
        for (int[] line : lines) {
            PennyBank bank = Check.withAccounts(2);
            bank.days(9);
            bank.post(0, 0, 5, 70);
            bank.post(1, 0, line[0], line[1]);
            bank.write(0, line[0], line[1]);
            compared("a line of " + line[1] + " on " + line[0], bank, line[2], 1 - line[2], 1 - line[2]);
        }
    }

    private static void asManyAsCanBe() {
        Check.sentence("4. BOOKS: paired, as many as can be");
        for (int lines = 0; lines <= 3; lines++) {
            for (int entries = 0; entries <= 3; entries++) {
                PennyBank bank = Check.withAccounts(1);
                for (int i = 0; i < lines; i++) {
                    bank.write(0, 0, 70);
                    bank.write(0, 1, 70);
                }
                for (int i = 0; i < entries; i++) {
                    bank.post(0, i, 0, 70);
                }
                int pairs = Math.min(lines, entries);
                compared(lines + " lines, " + entries + " entries", bank, pairs, 2 * lines - pairs, entries - pairs);
            }
        }
    }

    private static void fullBook() {
        Check.sentence("4. BOOKS: lines, 40 at most; ENTRIES, 400 at most");
        PennyBank bank = Check.withAccounts(1);
        for (int i = 0; i < 40; i++) {
            bank.write(0, 0, 1 + i / 20);
        }
        for (int i = 0; i < 400; i++) {
            bank.post(0, 0, 0, i < 399 ? 1 : 2);
        }
        compared("all are there", bank, 21, 19, 379);
    }

    private static void asKnownNow() {
        Check.sentence("4. BOOKS: COMPARED with its ENTRIES, as known NOW");
        PennyBank bank = Check.withAccounts(1);
        bank.write(0, 0, 70);
        bank.write(0, 3, -10);
        bank.days(3);
        compared("nothing is posted yet", bank, 0, 2, 0);
        bank.post(0, 0, 0, 70);
        compared("at once, though it came late", bank, 1, 1, 0);
        bank.draw(0, 0, 10, 1);
        compared("what was drawn", bank, 2, 0, 0);
    }

    private static void wrongSettlements() {
        Check.sentence("Promise 14: NoSuchElementException: no such ACCOUNT");
        PennyBank none = new PennyBank();
        Check.noSuch("settle(0) without an account", () -> none.settle(0));
        PennyBank bank = Check.withAccounts(2);
        for (int account : Check.beside(0, 1)) {
            Check.noSuch("settle(" + account + ")", () -> bank.settle(account));
        }
        Check.due("settle(0)", bank.settle(0), 0);
        Check.due("settle(1)", bank.settle(1), 0);
    }

    private static PennyBank saving(int sum) {
        PennyBank bank = Check.withAccounts(1);
        Check.text(bank, "interest 100 when 1;", 0);
        bank.post(0, 0, 0, sum);
        return bank;
    }

    private static void lastDayAhead() {
        Check.sentence("4. BOOKS: SETTLED: the INTEREST of all MONTHS whose last day is ahead of NOW");
        PennyBank bank = saving(240);
        Check.due("day 0", bank.settle(0), 0);
        for (int month = 0; month < 3; month++) {
            bank.days(29);
            Check.due("the last day of month " + month, bank.settle(0), 0);
            bank.days(1);
            Check.due("the day behind it", bank.settle(0), 1);
        }
        PennyBank late = saving(240);
        late.days(89);
        Check.due("two months at once", late.settle(0), 2);
        PennyBank later = saving(240);
        later.days(90);
        Check.due("three months at once", later.settle(0), 3);
    }

    private static void noMonthIsLeft() {
        Check.sentence("4. BOOKS: MONTHS whose last day is ahead of NOW (day 719 is ahead of none)");
        PennyBank bank = saving(240);
        Check.passTo(bank, 689);
        Check.due("day 689", bank.settle(0), 22);
        bank.days(1);
        Check.due("day 690", bank.settle(0), 1);
        bank.days(29);
        Check.due("day 719", bank.settle(0), 0);
        Check.due("the last month's is never written", bank.interest(0, 23, 719), 1);
    }

    private static void belowZeroOrZero() {
        Check.sentence("4. BOOKS: less what was written as INTEREST ahead (it may be below 0, or 0)");
        PennyBank bank = saving(480);
        bank.days(30);
        Check.due("the first time", bank.settle(0), 2);
        Check.due("0, the second time", bank.settle(0), 0);
        bank.post(0, 0, 29, -1);
        Check.due("below 0, put right", bank.settle(0), -1);
        Check.due("0 behind it", bank.settle(0), 0);
        bank.post(0, 0, 29, -240);
        Check.due("all of it back", bank.settle(0), -1);
        Check.due("0 behind that", bank.settle(0), 0);
        bank.post(0, 0, 29, 241);
        Check.due("all of it again", bank.settle(0), 2);
        bank.account(0, 0);
        Check.due("another account's is its own", bank.settle(1), 0);
    }

    private static void settledIsNoEntry() {
        Check.sentence("4. BOOKS: that is written (neither a line by hand nor an ENTRY)");
        PennyBank bank = saving(240);
        bank.days(30);
        bank.settle(0);
        Check.due("no entry", bank.count(1), 1);
        compared("no line", bank, 0, 0, 1);
        Check.due("the balance has it once", bank.balance(0, 30, 30), 241);
        Check.due("the first line", bank.write(0, 0, 240), 1);
    }
}
