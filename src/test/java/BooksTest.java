/** Promises 12, 13 and 14: write, compare, settle. */
public final class BooksTest {
    public static void main(String[] args) {
        lines();
        pairs();
        wrongQuestions();
        settledOnce();
        differences();
        Check.end();
    }

    private static void lines() {
        PennyBank bank = new PennyBank();
        bank.account(0, 0);
        bank.account(0, 0);
        Check.due("account -1", bank.write(-1, 0, 1), -1);
        Check.due("account 2", bank.write(2, 0, 1), -1);
        Check.due("day -1", bank.write(0, -1, 1), -1);
        Check.due("day 720", bank.write(0, 720, 1), -1);
        Check.due("day 719", bank.write(0, 719, 0), 1);
        Check.due("any sum", bank.write(0, 0, Integer.MIN_VALUE), 2);
        for (int i = 3; i <= 40; i++) {
            Check.due("line " + i, bank.write(0, i, i), i);
        }
        Check.due("the 41st", bank.write(0, 0, 1), -1);
        Check.due("another book", bank.write(1, 0, 1), 1);
        Check.due("lines alone", bank.compare(0, 1), 40);
        Check.due("the other's", bank.compare(1, 1), 1);
    }

    private static void compared(PennyBank bank, int account, int pairs, int lines, int entries) {
        Check.due("pairs of " + account, bank.compare(account, 0), pairs);
        Check.due("lines alone of " + account, bank.compare(account, 1), lines);
        Check.due("entries alone of " + account, bank.compare(account, 2), entries);
    }

    private static void pairs() {
        PennyBank bank = new PennyBank();
        bank.account(0, 0);
        bank.account(0, 0);
        bank.days(9);
        compared(bank, 0, 0, 0, 0);
        PennyBank other = new PennyBank();
        other.account(0, 0);
        other.write(0, 0, 0);
        compared(other, 0, 0, 1, 0);
        bank.post(0, 0, 5, 70);
        bank.post(0, 1, 5, 70);
        bank.post(0, 0, 6, 70);
        bank.post(1, 0, 5, 71);
        compared(bank, 0, 0, 0, 3);
        bank.write(0, 5, 70);
        compared(bank, 0, 1, 0, 2);
        bank.write(0, 5, 71);
        compared(bank, 0, 1, 1, 2);
        bank.write(0, 7, 70);
        compared(bank, 0, 1, 2, 2);
        bank.write(0, 5, 70);
        compared(bank, 0, 2, 2, 1);
        bank.write(0, 5, 70);
        compared(bank, 0, 2, 3, 1);
        bank.write(0, 5, -70);
        compared(bank, 0, 2, 4, 1);
        bank.post(0, 0, 5, 70);
        compared(bank, 0, 3, 3, 1);
        bank.draw(0, 0, 33, 1);
        compared(bank, 0, 3, 3, 2);
        bank.write(0, 9, -33);
        compared(bank, 0, 4, 3, 1);
        compared(bank, 1, 0, 0, 1);
        bank.settle(0);
        compared(bank, 0, 4, 3, 1);
    }

    private static void wrongQuestions() {
        PennyBank bank = new PennyBank();
        bank.account(0, 0);
        Check.due("what -1", bank.compare(0, -1), -1);
        Check.due("what 3", bank.compare(0, 3), -1);
        Check.due("account -1", bank.compare(-1, 0), -1);
        Check.due("account 1", bank.compare(1, 0), -1);
        Check.noSuch("settle(-1)", () -> bank.settle(-1));
        Check.noSuch("settle(1)", () -> bank.settle(1));
    }

    private static void settledOnce() {
        PennyBank bank = new PennyBank();
        bank.account(0, 0);
        bank.account(0, 0);
        Check.text(bank, "interest 100 when 1;", 0);
        bank.post(0, 0, 0, 2400);
        bank.post(1, 0, 0, 4800);
        Check.due("no month has ended", bank.settle(0), 0);
        bank.days(29);
        Check.due("its last day is not ahead", bank.settle(0), 0);
        bank.days(1);
        Check.due("the first month", bank.settle(0), 10);
        Check.due("once", bank.settle(0), 0);
        bank.days(59);
        Check.due("the second month", bank.settle(0), 10);
        bank.days(1);
        Check.due("the third month", bank.settle(0), 10);
        Check.due("three months of the other", bank.settle(1), 60);
        Check.due("no entry", bank.count(1), 2);
        Check.due("interest counts once", bank.balance(0, 90, 90), 2430);
    }

    private static void differences() {
        PennyBank bank = new PennyBank();
        bank.account(0, 0);
        Check.text(bank, "interest 100 when 1;", 0);
        bank.post(0, 0, 0, 2400);
        bank.days(30);
        Check.due("the month", bank.settle(0), 10);
        bank.post(0, 0, 3, -1200);
        Check.due("put right", bank.settle(0), -5);
        bank.post(0, 0, 3, 1200);
        Check.due("put right again", bank.settle(0), 5);
        bank.post(0, 0, 0, -2400);
        Check.due("all of it back", bank.settle(0), -10);
        bank.post(0, 0, 0, 2400);
        Check.text(bank, "interest 30 when 1;", 29);
        Check.due("by a text that came late", bank.settle(0), 3);
    }
}
