/** The boundary cases that the document names of night and coin. */
public final class EdgesOfNightsTest {
    public static void main(String[] args) {
        noneSuch();
        noSuchBranch();
        anotherNumber();
        zeroAtFirst();
        postedSince();
        shortOrOver();
        fromThenOnAsCounted();
        greatestCoin();
        Check.end();
    }

    private static void noneSuch() {
        Check.sentence("Promise 16: NoSuchElementException: none such");
        PennyBank bank = Check.withAccounts(1);
        bank.post(0, 0, 0, 5);
        bank.post(0, 3, 0, 8);
        for (int branch : Check.beside(0, 3)) {
            Check.noSuch("coin(" + branch + ")", () -> bank.coin(branch));
        }
        Check.due("coin(0)", bank.coin(0), 5);
        Check.due("coin(3)", bank.coin(3), 8);
    }

    private static void noSuchBranch() {
        Check.sentence("Promise 15: NoSuchElementException: no such BRANCH");
        PennyBank bank = new PennyBank();
        for (int branch : Check.beside(0, 3)) {
            Check.noSuch("night(" + branch + ", 5)", () -> bank.night(branch, 5));
        }
        Check.due("nothing is over", bank.count(7), 0);
        Check.due("night(0, 5)", bank.night(0, 5), 5);
        Check.due("night(3, 8)", bank.night(3, 8), 8);
        Check.due("both are over", bank.count(7), 13);
    }

    private static void anotherNumber() {
        Check.sentence("Promise 15: counted (0 .. 10000000); NoSuchElementException: another number");
        PennyBank bank = Check.withAccounts(1);
        bank.post(0, 0, 0, 70);
        for (int counted : Check.beside(0, 10000000)) {
            Check.noSuch("night(0, " + counted + ")", () -> bank.night(0, counted));
            Check.due("the coin behind it", bank.coin(0), 70);
        }
        Check.due("nothing is over", bank.count(7), 0);
        Check.due("night(0, 0)", bank.night(0, 0), -70);
        Check.due("coin(0)", bank.coin(0), 0);
        Check.due("night(0, 10000000)", bank.night(0, 10000000), 10000000);
        Check.due("coin(0) then", bank.coin(0), 10000000);
        Check.due("count(7)", bank.count(7), 9999930);
    }

    private static void zeroAtFirst() {
        Check.sentence("4. BOOKS: a BRANCH's coin is what it was at its latest night (0 at first)");
        PennyBank bank = new PennyBank();
        for (int branch = 0; branch <= 3; branch++) {
            Check.due("coin(" + branch + ")", bank.coin(branch), 0);
            Check.due("a night without a coin", bank.night(branch, 0), 0);
            Check.due("the next night", bank.night(branch, branch), branch);
        }
    }

    private static void postedSince() {
        Check.sentence("4. BOOKS: and the ENTRIES at it that were posted since");
        PennyBank bank = Check.withAccounts(1);
        bank.days(9);
        bank.post(0, 2, 9, 100);
        Check.due("ahead of the night", bank.coin(2), 100);
        bank.night(2, 100);
        Check.due("counted", bank.coin(2), 100);
        bank.post(0, 2, 0, 30);
        Check.due("posted since, though of day 0", bank.coin(2), 130);
        bank.post(0, 1, 9, 7);
        Check.due("posted at another", bank.coin(2), 130);
        bank.draw(0, 2, 50, 1);
        Check.due("drawn since", bank.coin(2), 80);
        bank.draw(0, 2, 90, 0);
        bank.draw(0, 4, 20, 1);
        bank.post(0, 2, 10, 20);
        Check.due("what is refused does not count", bank.coin(2), 80);
        bank.draw(0, 3, 50, 1);
        Check.due("a coin below 0", bank.coin(3), -50);
        Check.due("the others", bank.coin(0) + bank.coin(1), 7);
    }

    private static void shortOrOver() {
        Check.sentence("4. BOOKS: it is short (below 0) or over: told, carried");
        PennyBank bank = Check.withAccounts(1);
        bank.post(0, 1, 0, 100);
        Check.due("short by 1", bank.night(1, 99), -1);
        Check.due("count(7)", bank.count(7), -1);
        Check.due("neither", bank.night(1, 99), 0);
        Check.due("count(7) then", bank.count(7), -1);
        Check.due("over by 1", bank.night(1, 100), 1);
        Check.due("count(7) of both", bank.count(7), 0);
        bank.post(0, 2, 0, -5);
        Check.due("over a coin below 0", bank.night(2, 0), 5);
        Check.due("short at another", bank.night(1, 90), -10);
        Check.due("count(7) of all", bank.count(7), -5);
    }

    private static void fromThenOnAsCounted() {
        Check.sentence("4. BOOKS: from then on it is as counted");
        PennyBank bank = Check.withAccounts(1);
        bank.post(0, 0, 0, 100);
        bank.night(0, 40);
        Check.due("as counted", bank.coin(0), 40);
        bank.days(1);
        Check.due("the day behind", bank.coin(0), 40);
        bank.post(0, 0, 1, 5);
        Check.due("and what was posted since", bank.coin(0), 45);
        Check.due("the balance is another thing", bank.balance(0, 1, 1), 105);
        Check.due("the next night", bank.night(0, 45), 0);
    }

    private static void greatestCoin() {
        Check.sentence("Promise 15: how much it is over (400 ENTRIES of 100000)");
        PennyBank bank = Check.withAccounts(1);
        for (int i = 0; i < 400; i++) {
            bank.post(0, 0, 0, 100000);
        }
        Check.due("the greatest coin", bank.coin(0), 40000000);
        Check.due("the most short", bank.night(0, 0), -40000000);
        PennyBank debt = Check.withAccounts(1);
        for (int i = 0; i < 400; i++) {
            debt.post(0, 0, 0, -100000);
        }
        Check.due("the least coin", debt.coin(0), -40000000);
        Check.due("the most over", debt.night(0, 10000000), 50000000);
    }
}
