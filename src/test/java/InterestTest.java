/** Promise 8: interest, and what the words of a text are worth. */
public final class InterestTest {
    public static void main(String[] args) {
        leastBalance();
        cuts();
        wrongArguments();
        firstLineThatApplies();
        textsInForce();
        textsAsKnown();
        words();
        tests();
        aheadOfTheOpening();
        Check.end();
    }

    private static PennyBank with(String text) {
        PennyBank bank = new PennyBank();
        Check.due(text, Check.text(bank, text, 0), 0);
        return bank;
    }

    private static void leastBalance() {
        PennyBank bank = with("interest 100 when 1;");
        bank.account(0, 0);
        bank.days(100);
        bank.post(0, 0, 0, 2400);
        bank.post(0, 0, 29, -1200);
        bank.post(0, 0, 30, 1200);
        Check.due("the last day counts", bank.interest(0, 0, 100), 5);
        Check.due("from the first day on", bank.interest(0, 1, 100), 10);
        bank.post(0, 0, 60, -240);
        bank.post(0, 0, 61, 240);
        Check.due("the first day counts", bank.interest(0, 2, 100), 9);
        bank.post(0, 0, 75, -2000);
        bank.post(0, 0, 75, 2000);
        Check.due("a day's end alone counts", bank.interest(0, 2, 100), 9);
        bank.account(0, 0);
        bank.post(1, 0, 1, 2400);
        Check.due("nothing on the first day", bank.interest(1, 0, 100), 0);
        Check.due("all of the next month", bank.interest(1, 1, 100), 10);
    }

    private static void cuts() {
        PennyBank bank = with("interest 99 when 1;");
        bank.account(0, 0);
        bank.post(0, 0, 0, 239);
        Check.due("below 240", bank.interest(0, 0, 0), 0);
        bank.post(0, 0, 0, 1);
        Check.due("99 hundredths are cut", bank.interest(0, 0, 0), 0);
        bank.post(0, 0, 0, 479);
        Check.due("719 are 480", bank.interest(0, 0, 0), 1);
        bank.post(0, 0, 0, 1);
        Check.due("720", bank.interest(0, 0, 0), 2);
        bank.post(0, 0, 0, -2000);
        Check.due("below 0", bank.interest(0, 23, 0), 0);
        Check.due("no interest of a debt", bank.balance(0, 719, 0), -1280);
    }

    private static void wrongArguments() {
        PennyBank bank = with("interest 99 when 1;");
        bank.account(0, 0);
        bank.days(3);
        Check.noSuch("account -1", () -> bank.interest(-1, 0, 0));
        Check.noSuch("account 1", () -> bank.interest(1, 0, 0));
        Check.noSuch("month -1", () -> bank.interest(0, -1, 0));
        Check.noSuch("month 24", () -> bank.interest(0, 24, 0));
        Check.noSuch("month of the greatest int", () -> bank.interest(0, Integer.MAX_VALUE, 0));
        Check.noSuch("known -1", () -> bank.interest(0, 0, -1));
        Check.noSuch("known 4", () -> bank.interest(0, 0, 4));
        Check.due("known 3", bank.interest(0, 23, 3), 0);
    }

    private static void firstLineThatApplies() {
        PennyBank bank = with("limit 9 when 1; interest 10 when month = 1; interest 20 when month < 3;"
            + " interest 30 when month - 3; interest 40 when 1;");
        bank.account(0, 0);
        bank.post(0, 0, 0, 24000);
        int[] due = {20, 10, 20, 40, 30};
        int balance = 24000;
        for (int month = 0; month < due.length; month++) {
            int interest = balance / 240 * due[month] / 100;
            Check.due("interest of " + month, bank.interest(0, month, 0), interest);
            balance += interest;
        }
        PennyBank none = with("limit 9 when 1;");
        none.account(0, 0);
        none.post(0, 0, 0, 24000);
        Check.due("no line", none.interest(0, 0, 0), 0);
    }

    private static void textsInForce() {
        PennyBank bank = new PennyBank();
        bank.account(0, 0);
        bank.post(0, 0, 0, 24000);
        Check.due("no text", bank.interest(0, 0, 0), 0);
        Check.text(bank, "interest 10 when 1;", 30);
        Check.text(bank, "interest 20 when 1;", 89);
        Check.text(bank, "", 120);
        Check.due("ahead of the first", bank.interest(0, 0, 0), 0);
        Check.due("the first", bank.interest(0, 1, 0), 10);
        Check.due("from the month's last day on", bank.interest(0, 2, 0), 20);
        Check.due("still the second", bank.interest(0, 3, 0), 20);
        Check.due("an empty text", bank.interest(0, 4, 0), 0);
    }

    private static void textsAsKnown() {
        PennyBank bank = new PennyBank();
        bank.account(0, 0);
        bank.post(0, 0, 0, 24000);
        Check.text(bank, "interest 10 when 1;", 0);
        bank.days(100);
        Check.text(bank, "interest 50 when 1;", 31);
        Check.due("not known yet", bank.interest(0, 1, 99), 10);
        Check.due("known", bank.interest(0, 1, 100), 50);
        Check.due("ahead of it", bank.interest(0, 0, 100), 10);
        Check.due("the balance, not known yet", bank.balance(0, 60, 99), 24020);
        Check.due("the balance, known", bank.balance(0, 60, 100), 24060);
    }

    private static void worth(String test, int month, boolean holds) {
        PennyBank bank = new PennyBank();
        bank.days(7);
        bank.account(0, 0);
        bank.account(2, 0);
        bank.post(1, 0, 0, 2639);
        Check.due(test, Check.text(bank, "interest 100 when " + test + ";", month * 30 + 29), 0);
        Check.due(test + " in month " + month, bank.interest(1, month, 7), holds ? 10 : 0);
    }

    private static void words() {
        worth("kind = 2", 0, true);
        worth("kind", 0, true);
        worth("kind - 2", 0, false);
        worth("base = 10", 5, true);
        worth("base = 11", 5, false);
        worth("age = 22", 0, true);
        worth("age = 82", 2, true);
        worth("age = 712", 23, true);
        worth("month = 23", 23, true);
        worth("month", 0, false);
        worth("day = 29", 0, true);
        worth("day = 29", 23, true);
    }

    private static void tests() {
        worth("1", 0, true);
        worth("0", 0, false);
        worth("0 - 5", 0, true);
        worth("5 - 2 - 3", 0, false);
        worth("5 - (2 - 3)", 0, true);
        worth("5 - (2 + 3)", 0, false);
        worth("5 - 2 + 3 = 6", 0, true);
        worth("1 < 2", 0, true);
        worth("2 < 2", 0, false);
        worth("3 < 2", 0, false);
        worth("0 - 3 < 0 - 2", 0, true);
        worth("2 = 2", 0, true);
        worth("1 + 1 = 4 - 2", 0, true);
        worth("(1 < 2) = 1", 0, true);
        worth("(2 < 1) = 0", 0, true);
        worth("(5 = 5) + (1 < 2) = 2", 0, true);
        worth("5 and 0 - 3", 0, true);
        worth("5 and 0", 0, false);
        worth("0 and 5", 0, false);
        worth("(5 and 7) = 1", 0, true);
        worth("(5 and 0) = 0", 0, true);
        worth("(5) = 5", 0, true);
        worth("1 and 1 and 0", 0, false);
        worth("0 and 1 and 1", 0, false);
        worth("1 and 0 and 1", 0, false);
        worth("1 < 2 and 2 < 3 and 3 = 3", 0, true);
        worth("1 < 2 and 3 < 3", 0, false);
        worth("((((99999)))) = 99999", 0, true);
        worth("((((1 < 2)))) = 1", 0, true);
        worth("((((2 < 1 and 1)))) = 1", 0, false);
        worth("10 - (1 + (1 + (1 + 1))) = 6", 0, true);
        worth("99999 + 99999 = 99999 + 99998 + 1", 0, true);
    }

    /** Entries may be of days ahead of the opening; the age is below 0 then. */
    private static void aheadOfTheOpening() {
        PennyBank bank = with("interest 100 when age = 0 - 11;");
        bank.days(40);
        bank.account(0, 0);
        bank.post(0, 0, 0, 240);
        Check.due("an age below 0", bank.interest(0, 0, 40), 1);
    }
}
