/** The boundary cases that the document names of entries, post and balance. */
public final class EdgesOfEntriesTest {
    public static void main(String[] args) {
        noSuchAccount();
        noSuchBranch();
        dayNotAboveNow();
        sums();
        fourHundredAreThere();
        drawsAreEntriesToo();
        knownFromItsDayOn();
        entriesOfDaysUpToIt();
        monthsWhoseLastDayIsAhead();
        noEntryAtAll();
        wrongBalances();
        Check.end();
    }

    private static void noSuchAccount() {
        Check.sentence("Promise 4: NONE: no such ACCOUNT");
        PennyBank bank = Check.withAccounts(3);
        for (int account : Check.beside(0, 2)) {
            Check.due("post to " + account, bank.post(account, 0, 0, 1), -1);
        }
        Check.due("nothing is posted", bank.count(1), 0);
        Check.due("no coin came", bank.coin(0), 0);
        Check.due("post to 0", bank.post(0, 0, 0, 1), 0);
        Check.due("post to 2", bank.post(2, 0, 0, 1), 1);
    }

    private static void noSuchBranch() {
        Check.sentence("Promise 4: NONE: no such BRANCH");
        PennyBank bank = Check.withAccounts(1);
        for (int branch : Check.beside(0, 3)) {
            Check.due("post at " + branch, bank.post(0, branch, 0, 1), -1);
        }
        Check.due("nothing is posted", bank.count(1), 0);
        for (int branch = 0; branch <= 3; branch++) {
            Check.due("post at " + branch, bank.post(0, branch, 0, 10 + branch), branch);
        }
        for (int branch = 0; branch <= 3; branch++) {
            Check.due("coin of " + branch, bank.coin(branch), 10 + branch);
        }
    }

    private static void dayNotAboveNow() {
        Check.sentence("Terms: a day that is not above NOW; Promise 4: NONE: no such day");
        PennyBank bank = Check.withAccounts(1);
        bank.days(10);
        for (int day : Check.beside(0, 10)) {
            Check.due("post of day " + day, bank.post(0, 0, day, 1), -1);
        }
        Check.due("nothing is posted", bank.count(1), 0);
        Check.due("of day 0", bank.post(0, 0, 0, 1), 0);
        Check.due("of NOW", bank.post(0, 0, 10, 1), 1);
        bank.days(1);
        Check.due("of the new NOW", bank.post(0, 0, 11, 1), 2);
        Check.passTo(bank, 719);
        Check.due("of day 720", bank.post(0, 0, 720, 1), -1);
        Check.due("of day 719", bank.post(0, 0, 719, 1), 3);
        Check.due("up to day 718", bank.balance(0, 718, 719), 3);
        Check.due("up to day 719", bank.balance(0, 719, 719), 4);
    }

    private static void sums() {
        Check.sentence("Terms: a sum (1 .. 100000 paid in, -100000 .. -1 drawn); Promise 4: NONE: no such sum");
        PennyBank bank = Check.withAccounts(1);
        for (int sum : Check.beside(-100000, 100000)) {
            Check.due("post of " + sum, bank.post(0, 0, 0, sum), -1);
        }
        Check.due("post of 0", bank.post(0, 0, 0, 0), -1);
        Check.due("nothing is posted", bank.count(1), 0);
        Check.due("no coin came", bank.coin(0), 0);
        int[] sums = {1, -1, 100000, -100000, 99999, -99999};
        int balance = 0;
        for (int i = 0; i < sums.length; i++) {
            Check.due("post of " + sums[i], bank.post(0, 0, 0, sums[i]), i);
            balance += sums[i];
            Check.due("balance behind it", bank.balance(0, 0, 0), balance);
        }
    }

    private static void fourHundredAreThere() {
        Check.sentence("Promise 4: NONE: 400 are there");
        PennyBank bank = Check.withAccounts(1);
        for (int i = 0; i < 399; i++) {
            bank.post(0, 0, 0, 1);
        }
        Check.due("a refused one takes no number", bank.post(0, 0, 1, 1), -1);
        Check.due("399 are there", bank.count(1), 399);
        Check.due("the 400th", bank.post(0, 1, 0, 50), 399);
        Check.due("the 401st", bank.post(0, 1, 0, 70), -1);
        Check.due("the 401st, drawn", bank.post(0, 1, 0, -70), -1);
        Check.due("400 are there", bank.count(1), 400);
        Check.due("the 400th is in the balance, no other", bank.balance(0, 0, 0), 449);
        Check.due("the 400th is in the coin, no other", bank.coin(1), 50);
        Check.due("the 400th is compared, no other", bank.compare(0, 2), 400);
    }

    private static void drawsAreEntriesToo() {
        Check.sentence("Terms: ENTRIES, 400 at most; draw() posts it");
        PennyBank bank = Check.withAccounts(1);
        for (int i = 0; i < 398; i++) {
            bank.post(0, 0, 0, 10);
        }
        Check.due("draw the 399th", bank.draw(0, 0, 1, 1), 0);
        Check.due("post the 400th", bank.post(0, 0, 0, 10), 399);
        Check.due("draw the 401st", bank.draw(0, 0, 1, 1), 6);
        Check.due("400 are there", bank.count(1), 400);
        PennyBank other = Check.withAccounts(1);
        for (int i = 0; i < 399; i++) {
            other.post(0, 0, 0, 10);
        }
        Check.due("draw the 400th", other.draw(0, 0, 1, 1), 0);
        Check.due("post the 401st", other.post(0, 0, 0, 10), -1);
        Check.due("balance", other.balance(0, 0, 0), 3989);
    }

    private static void knownFromItsDayOn() {
        Check.sentence("Terms: known from the day NOW on which it is posted");
        PennyBank bank = Check.withAccounts(1);
        bank.days(20);
        bank.post(0, 0, 3, 100);
        bank.days(20);
        for (int known = 18; known <= 22; known++) {
            Check.due("day 3 as known on " + known, bank.balance(0, 3, known), known < 20 ? 0 : 100);
        }
        Check.due("as known on day 0", bank.balance(0, 3, 0), 0);
        bank.post(0, 0, 40, 7);
        Check.due("of NOW, as known on the day ahead", bank.balance(0, 40, 39), 100);
        Check.due("of NOW, as known NOW", bank.balance(0, 40, 40), 107);
    }

    private static void entriesOfDaysUpToIt() {
        Check.sentence("Terms: BALANCE of a day's end: all ENTRIES of days up to it");
        PennyBank bank = Check.withAccounts(2);
        bank.days(50);
        bank.post(0, 0, 40, 100);
        bank.post(0, 0, 0, 3);
        bank.post(1, 0, 39, 5000);
        Check.due("the day ahead", bank.balance(0, 39, 50), 3);
        Check.due("its day", bank.balance(0, 40, 50), 103);
        Check.due("the day behind", bank.balance(0, 41, 50), 103);
        Check.due("day 0", bank.balance(0, 0, 50), 3);
        Check.due("another account's day ahead", bank.balance(1, 38, 50), 0);
        Check.due("another account's day", bank.balance(1, 39, 50), 5000);
        bank.post(0, 0, 40, -104);
        Check.due("below 0", bank.balance(0, 40, 50), -1);
        Check.due("still below 0", bank.balance(0, 719, 50), -1);
    }

    private static void monthsWhoseLastDayIsAhead() {
        Check.sentence("Terms: BALANCE: and INTEREST of all MONTHS whose last day is ahead of it");
        PennyBank bank = Check.withAccounts(1);
        Check.text(bank, "interest 100 when 1;", 0);
        bank.post(0, 0, 0, 240);
        for (int month = 0; month < 24; month++) {
            Check.due("first day of month " + month, bank.balance(0, 30 * month, 0), 240 + month);
            Check.due("last day of month " + month, bank.balance(0, 30 * month + 29, 0), 240 + month);
        }
        Check.due("the last month's interest is in no balance", bank.interest(0, 23, 0), 1);
    }

    private static void noEntryAtAll() {
        Check.sentence("Promise 7: the BALANCE of an ACCOUNT without an ENTRY");
        PennyBank bank = Check.withAccounts(2);
        Check.text(bank, "interest 100 when 1;", 0);
        bank.post(0, 0, 0, 1000);
        Check.due("day 0", bank.balance(1, 0, 0), 0);
        Check.due("day 719", bank.balance(1, 719, 0), 0);
    }

    private static void wrongBalances() {
        Check.sentence("Promise 7: NoSuchElementException: no such ACCOUNT, days");
        PennyBank bank = Check.withAccounts(2);
        bank.post(1, 0, 0, 60);
        bank.days(5);
        bank.post(0, 0, 5, 40);
        for (int account : Check.beside(0, 1)) {
            Check.noSuch("of account " + account, () -> bank.balance(account, 0, 0));
        }
        for (int day : Check.beside(0, 719)) {
            Check.noSuch("of day " + day, () -> bank.balance(0, day, 5));
        }
        for (int known : Check.beside(0, 5)) {
            Check.noSuch("known on " + known, () -> bank.balance(0, 5, known));
        }
        Check.due("account 0, day 719, known 5", bank.balance(0, 719, 5), 40);
        Check.due("account 0, day 719, known 0", bank.balance(0, 719, 0), 0);
        Check.due("account 1, day 0, known 0", bank.balance(1, 0, 0), 60);
        bank.days(1);
        Check.due("known 6, then", bank.balance(0, 719, 6), 40);
        Check.noSuch("known 7, then", () -> bank.balance(0, 719, 7));
    }
}
