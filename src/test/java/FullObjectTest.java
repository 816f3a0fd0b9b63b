/** Objects with no room left, used for all of their 512 calls. */
public final class FullObjectTest {
    public static void main(String[] args) {
        allIsThere();
        longestTexts();
        Check.end();
    }

    /** 20 accounts, 8 texts, 6 holdings, 60 notices and 400 entries are 494 calls, so that 18 are left. */
    private static void allIsThere() {
        Check.sentence("An object is used for at most 512 calls");
        PennyBank bank = new PennyBank();
        for (int i = 0; i < 20; i++) {
            Check.due("account " + i, bank.account(3, 0), i);
        }
        for (int i = 0; i < 8; i++) {
            Check.due("text " + i, bank.text(712 + i), 0);
        }
        for (int i = 0; i < 6; i++) {
            Check.due("holding " + i, bank.holding(10000, 0), i);
        }
        for (int i = 0; i < 60; i++) {
            Check.due("notice " + i, bank.notice(19, 100000), true);
        }
        for (int i = 0; i < 400; i++) {
            Check.due("entry " + i, bank.post(19, 3, 0, 100000), i);
        }
        Check.due("may", bank.may(19, 100000, 1), 0);
        Check.due("draw", bank.draw(19, 3, 100000, 1), 6);
        Check.due("balance", bank.balance(19, 719, 0), 40000000);
        Check.due("interest", bank.interest(19, 23, 0), 0);
        Check.due("write", bank.write(19, 0, 100000), 1);
        Check.due("pairs", bank.compare(19, 0), 1);
        Check.due("entries alone", bank.compare(19, 2), 399);
        Check.due("settle", bank.settle(19), 0);
        Check.due("coin", bank.coin(3), 40000000);
        Check.due("best", bank.best(), 60000);
        Check.due("sold", bank.sold(5), 6);
        Check.due("account", bank.account(0, 0), -1);
        Check.due("text", bank.text(719), -1);
        Check.due("holding", bank.holding(1, 0), -1);
        Check.due("notice", bank.notice(19, 1), false);
        Check.due("post", bank.post(19, 3, 0, 1), -1);
        Check.due("days", bank.days(200), 200);
        Check.due("the 512th call", bank.count(1), 400);
    }

    /** 8 texts of 600 signs each, the last line of each the one that holds. */
    private static void longestTexts() {
        Check.sentence("2. TEXTS: A text, 8 at most; The TAPE has at most 600 signs");
        PennyBank bank = new PennyBank();
        bank.account(0, 0);
        bank.post(0, 0, 0, 24000);
        for (int i = 0; i < 8; i++) {
            String line = "interest 9 when 0<0";
            String last = "interest " + (i + 1) + " when 1<2;";
            String first = line + "+1-1".repeat((600 - last.length() - line.length() - 1) / 4);
            String text = first + " ".repeat(600 - last.length() - first.length() - 1) + ";" + last;
            Check.due("signs of text " + i, Check.feed(bank, text), 600);
            Check.due("text " + i, bank.text(30 * i), 0);
        }
        int balance = 24000;
        for (int month = 0; month < 24; month++) {
            int due = balance / 240 * Math.min(month + 1, 8) / 100;
            Check.due("interest of month " + month, bank.interest(0, month, 0), due);
            Check.due("balance of month " + month, bank.balance(0, 30 * month, 0), balance);
            balance += due;
        }
    }
}
