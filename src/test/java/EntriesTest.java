/** Promises 4 and 7: post, balance. */
public final class EntriesTest {
    public static void main(String[] args) {
        wrongPosts();
        fourHundredAtMost();
        balancesAsKnown();
        interestIsInTheBalance();
        Check.end();
    }

    private static void wrongPosts() {
        PennyBank bank = new PennyBank();
        bank.account(0, 0);
        bank.days(10);
        Check.due("no account -1", bank.post(-1, 0, 0, 1), -1);
        Check.due("no account 1", bank.post(1, 0, 0, 1), -1);
        Check.due("no branch -1", bank.post(0, -1, 0, 1), -1);
        Check.due("no branch 4", bank.post(0, 4, 0, 1), -1);
        Check.due("no day -1", bank.post(0, 0, -1, 1), -1);
        Check.due("a day above NOW", bank.post(0, 0, 11, 1), -1);
        Check.due("a sum of 0", bank.post(0, 0, 0, 0), -1);
        Check.due("a sum above", bank.post(0, 0, 0, 100001), -1);
        Check.due("a sum below", bank.post(0, 0, 0, -100001), -1);
        Check.due("the least int", bank.post(0, 0, 0, Integer.MIN_VALUE), -1);
        Check.due("none is posted", bank.count(1), 0);
        Check.due("the most", bank.post(0, 3, 10, 100000), 0);
        Check.due("the least", bank.post(0, 0, 0, -100000), 1);
        Check.due("two are posted", bank.count(1), 2);
        Check.due("a balance below 0", bank.balance(0, 9, 10), -100000);
        Check.due("both", bank.balance(0, 10, 10), 0);
    }

    private static void fourHundredAtMost() {
        PennyBank bank = new PennyBank();
        bank.account(0, 0);
        for (int i = 0; i < 400; i++) {
            Check.due("entry " + i, bank.post(0, 0, 0, 100000), i);
        }
        Check.due("the 401st", bank.post(0, 0, 0, 1), -1);
        Check.due("count(1)", bank.count(1), 400);
        Check.due("the greatest balance", bank.balance(0, 719, 0), 40000000);
        Check.due("coin", bank.coin(0), 40000000);
        Check.due("a draw of the 401st", bank.draw(0, 0, 1, 1), 6);
        Check.due("a reason goes ahead of 6", bank.draw(0, 0, 1, 0), 3);
        Check.text(bank, "interest 100 when 1;", 0);
        int balance = 40000000;
        for (int month = 0; month < 24; month++) {
            Check.due("interest of " + month, bank.interest(0, month, 0), balance / 240);
            balance += balance / 240;
        }
        Check.due("all interest but the last", bank.balance(0, 719, 0), balance - bank.interest(0, 23, 0));
    }

    private static void balancesAsKnown() {
        PennyBank bank = new PennyBank();
        bank.account(0, 0);
        bank.account(0, 0);
        bank.post(0, 0, 0, 100);
        bank.days(20);
        bank.post(0, 0, 10, 30);
        bank.post(1, 0, 10, 7777);
        bank.days(5);
        bank.post(0, 0, 15, -60);
        Check.due("day 0, known 0", bank.balance(0, 0, 0), 100);
        Check.due("day 9, known 25", bank.balance(0, 9, 25), 100);
        Check.due("day 10, known 19", bank.balance(0, 10, 19), 100);
        Check.due("day 10, known 20", bank.balance(0, 10, 20), 130);
        Check.due("day 15, known 24", bank.balance(0, 15, 24), 130);
        Check.due("day 15, known 25", bank.balance(0, 15, 25), 70);
        Check.due("day 14, known 25", bank.balance(0, 14, 25), 130);
        Check.due("day 719, known 25", bank.balance(0, 719, 25), 70);
        Check.due("another account", bank.balance(1, 10, 20), 7777);
        Check.noSuch("no account", () -> bank.balance(2, 0, 0));
        Check.noSuch("no day -1", () -> bank.balance(0, -1, 0));
        Check.noSuch("no day 720", () -> bank.balance(0, 720, 0));
        Check.noSuch("known -1", () -> bank.balance(0, 0, -1));
        Check.noSuch("known above NOW", () -> bank.balance(0, 0, 26));
    }

    private static void interestIsInTheBalance() {
        PennyBank bank = new PennyBank();
        bank.account(0, 0);
        Check.text(bank, "interest 100 when month < 2 ;", 0);
        bank.post(0, 0, 0, 2399);
        Check.due("its last day", bank.balance(0, 29, 0), 2399);
        Check.due("the day behind", bank.balance(0, 30, 0), 2408);
        Check.due("the next month's last day", bank.balance(0, 59, 0), 2408);
        Check.due("interest on interest", bank.balance(0, 60, 0), 2418);
        Check.due("none from then on", bank.balance(0, 719, 0), 2418);
    }
}
