/** Promises 1, 2, 3 and 21: a new object, account, days, count. */
public final class AccountsTest {
    public static void main(String[] args) {
        aNewObject();
        kindsAndNumbers();
        twentyAtMost();
        daysPass();
        counts();
        Check.end();
    }

    private static void aNewObject() {
        PennyBank bank = new PennyBank();
        for (int what = 0; what <= 7; what++) {
            Check.due("new: count(" + what + ")", bank.count(what), 0);
        }
        Check.due("new: post(0, 0, 0, 1)", bank.post(0, 0, 0, 1), -1);
        Check.due("new: post(0, 0, 1, 1)", bank.post(0, 0, 1, 1), -1);
        Check.due("new: may(0, 1, 15)", bank.may(0, 1, 15), 1);
        Check.due("new: draw(0, 0, 1, 15)", bank.draw(0, 0, 1, 15), 1);
        Check.due("new: notice(0, 1)", bank.notice(0, 1), false);
        Check.due("new: write(0, 0, 1)", bank.write(0, 0, 1), -1);
        Check.due("new: compare(0, 0)", bank.compare(0, 0), -1);
        Check.noSuch("new: balance(0, 0, 0)", () -> bank.balance(0, 0, 0));
        Check.noSuch("new: interest(0, 0, 0)", () -> bank.interest(0, 0, 0));
        Check.noSuch("new: settle(0)", () -> bank.settle(0));
        Check.due("new: sold(0)", bank.sold(0), -1);
    }

    private static void kindsAndNumbers() {
        PennyBank bank = new PennyBank();
        Check.due("account(-1, 0)", bank.account(-1, 0), -1);
        Check.due("account(4, 0)", bank.account(4, 0), -1);
        Check.due("account(1, -1)", bank.account(1, -1), -1);
        Check.due("account(1, 720)", bank.account(1, 720), -1);
        Check.due("account(3, -1)", bank.account(3, -1), -1);
        Check.due("account(3, 720)", bank.account(3, 720), -1);
        Check.due("count(0) of none", bank.count(0), 0);
        Check.due("account(0, -1)", bank.account(0, -1), 0);
        Check.due("account(2, 720)", bank.account(2, 720), 1);
        Check.due("account(0, min)", bank.account(0, Integer.MIN_VALUE), 2);
        Check.due("account(1, 0)", bank.account(1, 0), 3);
        Check.due("account(1, 719)", bank.account(1, 719), 4);
        Check.due("account(3, 0)", bank.account(3, 0), 5);
        Check.due("account(3, 719)", bank.account(3, 719), 6);
        Check.due("count(0)", bank.count(0), 7);
    }

    private static void twentyAtMost() {
        PennyBank bank = new PennyBank();
        for (int i = 0; i < 20; i++) {
            Check.due("account " + i, bank.account(0, 0), i);
        }
        Check.due("the 21st account", bank.account(0, 0), -1);
        Check.due("count(0) of 20", bank.count(0), 20);
        Check.due("post to the 20th", bank.post(19, 0, 0, 1), 0);
        Check.due("post to the 21st", bank.post(20, 0, 0, 1), -1);
        Check.noSuch("balance(-1, 0, 0)", () -> bank.balance(-1, 0, 0));
        Check.noSuch("balance(20, 0, 0)", () -> bank.balance(20, 0, 0));
    }

    private static void daysPass() {
        PennyBank bank = new PennyBank();
        Check.due("days(-1)", bank.days(-1), -1);
        Check.due("days(201)", bank.days(201), -1);
        Check.due("days(max)", bank.days(Integer.MAX_VALUE), -1);
        Check.due("days(min)", bank.days(Integer.MIN_VALUE), -1);
        Check.due("days(0)", bank.days(0), 0);
        Check.due("days(200)", bank.days(200), 200);
        Check.due("days(200) again", bank.days(200), 400);
        Check.due("days(200) thrice", bank.days(200), 600);
        Check.due("days(120)", bank.days(120), -1);
        Check.due("count(2) behind a NONE", bank.count(2), 600);
        Check.due("days(119)", bank.days(119), 719);
        Check.due("days(1) at the end", bank.days(1), -1);
        Check.due("days(0) at the end", bank.days(0), 719);
    }

    private static void counts() {
        PennyBank bank = new PennyBank();
        bank.account(3, 0);
        bank.account(0, 0);
        bank.account(0, 0);
        bank.post(0, 0, 0, 5);
        bank.days(9);
        Check.text(bank, "", 4);
        Check.text(bank, " ", 5);
        bank.notice(0, 7);
        bank.holding(5, 0);
        bank.holding(6, 0);
        Check.feed(bank, "abc");
        bank.night(2, 11);
        bank.night(3, 2);
        bank.night(0, 3);
        int[] due = {3, 1, 9, 2, 1, 2, 3, 11};
        for (int what = 0; what < due.length; what++) {
            Check.due("count(" + what + ")", bank.count(what), due[what]);
        }
        Check.due("count(-1)", bank.count(-1), -1);
        Check.due("count(8)", bank.count(8), -1);
    }
}
