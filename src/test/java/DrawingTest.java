/** Promises 9, 10 and 11: may, draw, notice. */
public final class DrawingTest {
    public static void main(String[] args) {
        accountsAndSums();
        balances();
        signers();
        noticesInTime();
        noticesGiven();
        eldestNoticeIsUsed();
        limits();
        factsOfLimits();
        draws();
        firstReason();
        Check.end();
    }

    private static void accountsAndSums() {
        PennyBank bank = new PennyBank();
        bank.account(0, 0);
        bank.post(0, 0, 0, 100000);
        bank.post(0, 0, 0, 100000);
        Check.due("account -1", bank.may(-1, 1, 1), 1);
        Check.due("account 1", bank.may(1, 1, 1), 1);
        Check.due("sum 0", bank.may(0, 0, 1), 1);
        Check.due("sum -1", bank.may(0, -1, 1), 1);
        Check.due("sum 100001", bank.may(0, 100001, 1), 1);
        Check.due("sum 1", bank.may(0, 1, 1), 0);
        Check.due("sum 100000", bank.may(0, 100000, 1), 0);
        Check.due("may() posts nothing", bank.count(1), 2);
    }

    private static void balances() {
        PennyBank bank = new PennyBank();
        bank.account(0, 0);
        Check.text(bank, "interest 100 when 1;", 0);
        bank.post(0, 0, 0, 240);
        bank.days(29);
        Check.due("all of it", bank.may(0, 240, 1), 0);
        Check.due("more", bank.may(0, 241, 1), 2);
        bank.days(1);
        Check.due("with interest", bank.may(0, 241, 1), 0);
        Check.due("more than that", bank.may(0, 242, 1), 2);
        bank.post(0, 0, 30, 9);
        Check.due("what came today", bank.may(0, 250, 1), 0);
        Check.due("less what came today", bank.may(0, 251, 1), 2);
    }

    private static void signers() {
        PennyBank bank = new PennyBank();
        bank.account(0, 0);
        bank.account(1, 5);
        bank.account(2, 0);
        bank.account(3, 0);
        for (int i = 0; i < 4; i++) {
            bank.post(i, 0, 0, 100);
        }
        bank.notice(3, 100);
        for (int set = 0; set < 32; set++) {
            int firstThree = (set & 1) + (set >> 1 & 1) + (set >> 2 & 1);
            Check.due("plain by " + set, bank.may(0, 1, set), (set & 1) == 1 ? 0 : 3);
            Check.due("minor by " + set, bank.may(1, 1, set), (set & 8) == 8 ? 0 : 3);
            Check.due("club by " + set, bank.may(2, 1, set), firstThree >= 2 ? 0 : 3);
            Check.due("notice by " + set, bank.may(3, 1, set), (set & 1) == 1 ? 0 : 3);
        }
        Check.due("club by all", bank.may(2, 1, -1), 0);
        Check.due("club by others", bank.may(2, 1, ~7), 3);
        Check.due("plain by others", bank.may(0, 1, ~1), 3);
        bank.days(4);
        Check.due("the day ahead", bank.may(1, 1, 1), 3);
        bank.days(1);
        Check.due("its day, by 0", bank.may(1, 1, 1), 0);
        Check.due("its day, by 3", bank.may(1, 1, 8), 3);
    }

    private static void noticesInTime() {
        PennyBank bank = new PennyBank();
        bank.account(3, 10);
        bank.account(3, 0);
        bank.post(0, 0, 0, 1000);
        bank.post(1, 0, 0, 1000);
        bank.days(3);
        bank.notice(0, 50);
        Check.due("another one's notice", bank.may(1, 50, 1), 4);
        bank.notice(1, 50);
        Check.due("at once", bank.may(1, 50, 1), 0);
        Check.due("of less", bank.may(1, 51, 1), 4);
        bank.days(9);
        Check.due("9 days ago", bank.may(0, 50, 1), 4);
        bank.days(1);
        Check.due("10 days ago", bank.may(0, 50, 1), 0);
        Check.due("more than noticed", bank.may(0, 51, 1), 4);
        bank.days(30);
        Check.due("40 days ago", bank.may(0, 1, 1), 0);
    }

    private static void noticesGiven() {
        PennyBank bank = new PennyBank();
        for (int kind = 0; kind < 4; kind++) {
            bank.account(kind, 0);
            Check.due("notice of kind " + kind, bank.notice(kind, 5), kind == 3);
        }
        Check.due("account -1", bank.notice(-1, 5), false);
        Check.due("account 4", bank.notice(4, 5), false);
        Check.due("sum 0", bank.notice(3, 0), false);
        Check.due("sum 100001", bank.notice(3, 100001), false);
        Check.due("sum 100000", bank.notice(3, 100000), true);
        Check.due("count(4)", bank.count(4), 2);
        for (int i = 2; i < 60; i++) {
            Check.due("notice " + i, bank.notice(3, 1), true);
        }
        Check.due("the 61st", bank.notice(3, 1), false);
        Check.due("count(4) of 60", bank.count(4), 60);
    }

    private static void eldestNoticeIsUsed() {
        PennyBank bank = new PennyBank();
        bank.account(3, 1);
        bank.post(0, 0, 0, 1000);
        bank.notice(0, 10);
        bank.notice(0, 90);
        bank.notice(0, 50);
        bank.days(1);
        bank.notice(0, 100);
        Check.due("too new", bank.draw(0, 0, 91, 1), 4);
        Check.due("uses that of 90", bank.draw(0, 0, 20, 1), 0);
        Check.due("90 is used", bank.may(0, 51, 1), 4);
        Check.due("uses that of 10", bank.draw(0, 0, 10, 1), 0);
        Check.due("50 is there", bank.may(0, 50, 1), 0);
        Check.due("no branch uses none", bank.draw(0, 4, 50, 1), 6);
        Check.due("uses that of 50", bank.draw(0, 0, 1, 1), 0);
        Check.due("none is left", bank.may(0, 1, 1), 4);
        bank.days(1);
        Check.due("that of 100", bank.may(0, 100, 1), 0);
        Check.due("count(4)", bank.count(4), 4);
    }

    private static void limits() {
        PennyBank bank = new PennyBank();
        bank.account(0, 0);
        bank.account(2, 0);
        bank.post(0, 0, 0, 10000);
        bank.post(1, 0, 0, 10000);
        Check.text(bank, "interest 3 when 1; limit 100 when kind = 0; limit 70 when kind < 1; ", 10);
        Check.due("ahead of the text", bank.may(0, 5000, 1), 0);
        bank.days(10);
        Check.due("above the limit", bank.may(0, 101, 1), 5);
        Check.due("the limit", bank.may(0, 100, 1), 0);
        Check.due("no line for the kind", bank.may(1, 5000, 3), 0);
        bank.post(0, 0, 10, -30);
        bank.post(0, 0, 9, -30);
        bank.post(0, 0, 10, 60);
        bank.post(1, 0, 10, -30);
        Check.due("what was posted as drawn", bank.may(0, 71, 1), 5);
        Check.due("up to the limit", bank.may(0, 70, 1), 0);
        Check.due("draw", bank.draw(0, 2, 50, 1), 0);
        Check.due("above what is left", bank.draw(0, 2, 21, 1), 5);
        Check.due("what is left", bank.draw(0, 2, 20, 1), 0);
        Check.due("nothing is left", bank.may(0, 1, 1), 5);
        bank.days(1);
        Check.due("the next day", bank.may(0, 100, 1), 0);
        Check.text(bank, "", 11);
        Check.due("another text in force", bank.may(0, 101, 1), 0);
    }

    private static void limited(String test, boolean holds) {
        PennyBank bank = new PennyBank();
        bank.days(4);
        bank.account(2, 0);
        bank.post(0, 0, 0, 1000);
        bank.days(68);
        bank.post(0, 0, 72, 5000);
        Check.due(test, Check.text(bank, "limit 0 when " + test + ";", 72), 0);
        Check.due("limit when " + test, bank.may(0, 1, 3), holds ? 5 : 0);
    }

    private static void factsOfLimits() {
        limited("kind = 2", true);
        limited("base = 4", true);
        limited("base = 25", false);
        limited("age = 68", true);
        limited("month = 2", true);
        limited("day = 12", true);
        limited("1 = 2", false);
        PennyBank bank = new PennyBank();
        bank.account(0, 0);
        bank.post(0, 0, 0, 5000);
        Check.text(bank, "limit 7 when base = 0 and month = 0 and day = 0 and age = 0;", 0);
        Check.due("on day 0 the balance ahead is 0", bank.may(0, 8, 1), 5);
        Check.due("up to it", bank.may(0, 7, 1), 0);
        bank.post(0, 0, 0, -10000);
        bank.days(1);
        bank.post(0, 0, 1, 90000);
        Check.text(bank, "limit 7 when base = 0;", 1);
        Check.due("a debt counts 0", bank.may(0, 8, 1), 5);
        PennyBank first = new PennyBank();
        first.account(0, 0);
        first.post(0, 0, 0, -5);
        first.post(0, 0, 0, 900);
        Check.text(first, "limit 7 when 1;", 0);
        Check.due("the first entry counts as drawn", first.may(0, 3, 1), 5);
        Check.due("up to the limit behind it", first.may(0, 2, 1), 0);
        PennyBank later = new PennyBank();
        later.account(0, 0);
        later.post(0, 0, 0, 240 * 200 - 2);
        Check.text(later, "interest 100 when 1; limit 7 when base = 199; limit 8 when base = 200;", 0);
        later.days(30);
        Check.due("interest is not in the day ahead", later.may(0, 8, 1), 5);
        later.days(1);
        Check.due("it is the next day", later.may(0, 8, 1), 0);
        Check.due("and the second line holds", later.may(0, 9, 1), 5);
    }

    private static void draws() {
        PennyBank bank = new PennyBank();
        bank.account(0, 0);
        bank.post(0, 1, 0, 100);
        bank.days(2);
        Check.due("branch -1", bank.draw(0, -1, 1, 1), 6);
        Check.due("branch 4", bank.draw(0, 4, 1, 1), 6);
        Check.due("account 1", bank.draw(1, 0, 1, 1), 1);
        Check.due("sum 0", bank.draw(0, 0, 0, 1), 1);
        Check.due("too much", bank.draw(0, 0, 101, 1), 2);
        Check.due("unsigned", bank.draw(0, 0, 1, 0), 3);
        Check.due("nothing is posted", bank.count(1), 1);
        Check.due("drawn", bank.draw(0, 3, 40, 1), 0);
        Check.due("it is posted", bank.count(1), 2);
        Check.due("at its branch", bank.coin(3), -40);
        Check.due("at no other", bank.coin(1), 100);
        Check.due("on the day NOW", bank.balance(0, 2, 2), 60);
        Check.due("not ahead of it", bank.balance(0, 1, 2), 100);
        Check.due("known from NOW on", bank.balance(0, 2, 1), 100);
        Check.due("all that is left", bank.draw(0, 3, 60, 1), 0);
        Check.due("nothing is left", bank.draw(0, 3, 1, 1), 2);
    }

    private static void firstReason() {
        PennyBank bank = new PennyBank();
        bank.account(3, 0);
        Check.text(bank, "limit 0 when 1;", 0);
        Check.due("1 is first", bank.draw(0, 4, 0, 0), 1);
        Check.due("2 is next", bank.draw(0, 4, 1, 0), 2);
        bank.post(0, 0, 0, 10);
        Check.due("3 is next", bank.draw(0, 4, 1, 0), 3);
        Check.due("4 is next", bank.draw(0, 4, 1, 1), 4);
        bank.notice(0, 1);
        Check.due("5 is next", bank.draw(0, 4, 1, 1), 5);
        Check.text(bank, "", 1);
        bank.days(1);
        Check.due("6 is last", bank.draw(0, 4, 1, 1), 6);
        Check.due("none of them", bank.draw(0, 3, 1, 1), 0);
    }
}
