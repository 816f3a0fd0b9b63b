/** The boundary cases that the document names of may, draw and notice. */
public final class EdgesOfDrawingTest {
    public static void main(String[] args) {
        noSuchAccount();
        sumsToDraw();
        balanceIsLess();
        balanceAsKnownNow();
        minorAheadOfItsDay();
        clubs();
        others();
        noticeOfThisSumOrMore();
        soManyDaysAgo();
        usedNotices();
        eldestNotice();
        theLimit();
        noneWithoutALine();
        firstLimitNotZero();
        drawnOnThatDay();
        firstAndLastEntry();
        dayAhead();
        zeroAtLeast();
        wordsOfLimits();
        noSuchBranch();
        noRoomForTheDraw();
        theFirstReason();
        noticesTaken();
        noticesOfKind();
        sixtyWereGiven();
        Check.end();
    }

    private static PennyBank with(int kind, int number, int sum) {
        PennyBank bank = new PennyBank();
        bank.account(kind, number);
        bank.post(0, 0, 0, sum);
        return bank;
    }

    private static void noSuchAccount() {
        Check.sentence("3. DRAWING: 1 no such ACCOUNT");
        PennyBank bank = with(0, 0, 50);
        bank.account(0, 0);
        bank.post(1, 0, 0, 50);
        for (int account : Check.beside(0, 1)) {
            Check.due("may of " + account, bank.may(account, 5, 1), 1);
            Check.due("draw of " + account, bank.draw(account, 0, 5, 1), 1);
        }
        Check.due("nothing is drawn", bank.count(1), 2);
        Check.due("may of 0", bank.may(0, 5, 1), 0);
        Check.due("may of 1", bank.may(1, 5, 1), 0);
        Check.due("draw of 1", bank.draw(1, 0, 5, 1), 0);
        Check.due("its balance", bank.balance(1, 0, 0), 45);
        Check.due("the other's", bank.balance(0, 0, 0), 50);
    }

    private static void sumsToDraw() {
        Check.sentence("3. DRAWING: 1 a sum that is not 1 .. 100000");
        PennyBank bank = with(0, 0, 100000);
        bank.post(0, 0, 0, 100000);
        for (int sum : Check.beside(1, 100000)) {
            Check.due("may of " + sum, bank.may(0, sum, 1), 1);
            Check.due("draw of " + sum, bank.draw(0, 0, sum, 1), 1);
        }
        Check.due("-1", bank.may(0, -1, 1), 1);
        Check.due("1", bank.may(0, 1, 1), 0);
        Check.due("100000", bank.may(0, 100000, 1), 0);
        Check.due("draw of 100000", bank.draw(0, 0, 100000, 1), 0);
        Check.due("draw of 1", bank.draw(0, 0, 1, 1), 0);
        Check.due("the rest", bank.balance(0, 0, 0), 99999);
    }

    private static void balanceIsLess() {
        Check.sentence("3. DRAWING: 2 the BALANCE, as known NOW, is less");
        PennyBank bank = with(0, 0, 50);
        Check.due("49 of 50", bank.may(0, 49, 1), 0);
        Check.due("50 of 50", bank.may(0, 50, 1), 0);
        Check.due("51 of 50", bank.may(0, 51, 1), 2);
        Check.due("draw 51 of 50", bank.draw(0, 0, 51, 1), 2);
        Check.due("draw 50 of 50", bank.draw(0, 0, 50, 1), 0);
        Check.due("1 of 0", bank.may(0, 1, 1), 2);
        bank.post(0, 0, 0, -1);
        Check.due("1 of -1", bank.may(0, 1, 1), 2);
        bank.post(0, 0, 0, 2);
        Check.due("1 of 1", bank.may(0, 1, 1), 0);
    }

    private static void balanceAsKnownNow() {
        Check.sentence("3. DRAWING: 2 the BALANCE, as known NOW (of the day NOW)");
        PennyBank bank = with(0, 0, 240);
        Check.text(bank, "interest 100 when 1;", 0);
        bank.days(29);
        Check.due("the month's last day", bank.may(0, 241, 1), 2);
        bank.days(1);
        Check.due("the day behind", bank.may(0, 241, 1), 0);
        Check.due("more than the interest", bank.may(0, 242, 1), 2);
        bank.post(0, 0, 30, 10);
        Check.due("with what came today", bank.may(0, 251, 1), 0);
        Check.due("more than came", bank.may(0, 252, 1), 2);
        bank.post(0, 0, 29, -11);
        Check.due("what came late lessens the interest, too", bank.may(0, 240, 1), 2);
        Check.due("the rest", bank.may(0, 239, 1), 0);
    }

    private static void minorAheadOfItsDay() {
        Check.sentence("3. DRAWING: 3 a MINOR's, ahead of its day, without signer 3");
        PennyBank bank = with(1, 10, 50);
        bank.days(9);
        Check.due("ahead of it, by 3", bank.may(0, 1, 8), 0);
        Check.due("ahead of it, by 0, 1, 2", bank.may(0, 1, 7), 3);
        Check.due("ahead of it, by 4 and on", bank.may(0, 1, ~15), 3);
        Check.due("ahead of it, by all but 3", bank.may(0, 1, ~8), 3);
        bank.days(1);
        Check.due("on it, by 3", bank.may(0, 1, 8), 3);
        Check.due("on it, by 0", bank.may(0, 1, 1), 0);
        bank.days(1);
        Check.due("behind it, by all but 0", bank.may(0, 1, ~1), 3);
        Check.due("behind it, by 0", bank.may(0, 1, 1), 0);
        Check.due("day 0, by 0", with(1, 0, 50).may(0, 1, 1), 0);
        Check.due("day 0, by 3", with(1, 0, 50).may(0, 1, 8), 3);
        PennyBank last = with(1, 719, 50);
        Check.passTo(last, 718);
        Check.due("ahead of day 719, by 0", last.may(0, 1, 1), 3);
        Check.due("ahead of day 719, by 3", last.may(0, 1, 8), 0);
        last.days(1);
        Check.due("on day 719, by 0", last.may(0, 1, 1), 0);
    }

    private static void clubs() {
        Check.sentence("3. DRAWING: 3 a CLUB's with fewer than two of the signers 0, 1, 2");
        PennyBank bank = with(2, 0, 50);
        int[] due = {3, 3, 3, 0, 3, 0, 0, 0};
        for (int set = 0; set < 8; set++) {
            Check.due("by " + set, bank.may(0, 1, set), due[set]);
            Check.due("by " + set + " and 3", bank.may(0, 1, set | 8), due[set]);
            Check.due("by " + set + " and all others", bank.may(0, 1, set | ~7), due[set]);
        }
        Check.due("draw by one", bank.draw(0, 0, 1, 4), 3);
        Check.due("draw by two", bank.draw(0, 0, 1, 6), 0);
    }

    private static void others() {
        Check.sentence("3. DRAWING: 3 others without signer 0");
        PennyBank plain = with(0, 0, 50);
        PennyBank noticed = with(3, 0, 50);
        noticed.notice(0, 50);
        for (PennyBank bank : new PennyBank[] {plain, noticed}) {
            Check.due("by none", bank.may(0, 1, 0), 3);
            Check.due("by 0", bank.may(0, 1, 1), 0);
            Check.due("by 1, 2, 3", bank.may(0, 1, 14), 3);
            Check.due("by all but 0", bank.may(0, 1, ~1), 3);
            Check.due("by all", bank.may(0, 1, -1), 0);
            Check.due("by 31", bank.may(0, 1, Integer.MIN_VALUE), 3);
            Check.due("by 0 and 31", bank.may(0, 1, Integer.MIN_VALUE | 1), 0);
            Check.due("by all but 31", bank.may(0, 1, Integer.MAX_VALUE), 0);
        }
    }

    private static void noticeOfThisSumOrMore() {
        Check.sentence("3. DRAWING: 4 no notice of this sum or more was given");
        PennyBank bank = with(3, 0, 100);
        Check.due("no notice", bank.may(0, 1, 1), 4);
        bank.notice(0, 50);
        Check.due("49 of 50", bank.may(0, 49, 1), 0);
        Check.due("50 of 50", bank.may(0, 50, 1), 0);
        Check.due("51 of 50", bank.may(0, 51, 1), 4);
        bank.notice(0, 49);
        Check.due("two are not one", bank.may(0, 99, 1), 4);
        bank.account(3, 0);
        bank.post(1, 0, 0, 100);
        Check.due("another one's", bank.may(1, 1, 1), 4);
        bank.notice(1, 100);
        Check.due("one's own", bank.may(1, 100, 1), 0);
        Check.due("the first one's is as it was", bank.may(0, 51, 1), 4);
        Check.due("no other kind is asked for one", with(0, 5, 9).may(0, 9, 1), 0);
    }

    private static void soManyDaysAgo() {
        Check.sentence("3. DRAWING: 4 given so many days ago or more");
        PennyBank bank = with(3, 10, 100);
        bank.days(3);
        bank.notice(0, 50);
        Check.due("on its day", bank.may(0, 50, 1), 4);
        bank.days(9);
        Check.due("9 days ago", bank.may(0, 50, 1), 4);
        bank.days(1);
        Check.due("10 days ago", bank.may(0, 50, 1), 0);
        bank.days(1);
        Check.due("11 days ago", bank.may(0, 50, 1), 0);
        PennyBank one = with(3, 1, 100);
        one.notice(0, 50);
        Check.due("0 days ago, of 1", one.may(0, 50, 1), 4);
        one.days(1);
        Check.due("1 day ago, of 1", one.may(0, 50, 1), 0);
        PennyBank longest = with(3, 719, 100);
        longest.notice(0, 50);
        Check.passTo(longest, 718);
        Check.due("718 days ago, of 719", longest.may(0, 50, 1), 4);
        longest.days(1);
        Check.due("719 days ago, of 719", longest.may(0, 50, 1), 0);
    }

    private static void usedNotices() {
        Check.sentence("3. DRAWING: 4 and not used");
        PennyBank bank = with(3, 0, 100);
        bank.notice(0, 50);
        Check.due("may() uses none", bank.may(0, 5, 1), 0);
        Check.due("reason 1 uses none", bank.draw(0, 0, 0, 1), 1);
        Check.due("reason 2 uses none", bank.draw(0, 0, 101, 1), 2);
        Check.due("reason 3 uses none", bank.draw(0, 0, 5, 0), 3);
        Check.due("reason 4 uses none", bank.draw(0, 0, 51, 1), 4);
        Check.due("reason 6 uses none", bank.draw(0, 4, 5, 1), 6);
        Check.due("a post uses none", bank.post(0, 0, 0, -5), 1);
        Check.due("it is there", bank.may(0, 50, 1), 0);
        Check.due("a draw of less uses it", bank.draw(0, 0, 1, 1), 0);
        Check.due("it is used", bank.may(0, 1, 1), 4);
        Check.due("it is used for draw(), too", bank.draw(0, 0, 1, 1), 4);
        PennyBank limited = with(3, 0, 100);
        limited.notice(0, 50);
        Check.text(limited, "limit 9 when 1;", 0);
        Check.due("reason 5 uses none", limited.draw(0, 0, 10, 1), 5);
        Check.due("it is there then, too", limited.draw(0, 0, 9, 1), 0);
    }

    private static void eldestNotice() {
        Check.sentence("3. DRAWING: draw() uses the eldest such notice");
        PennyBank bank = with(3, 5, 1000);
        bank.notice(0, 10);
        bank.days(1);
        bank.notice(0, 30);
        bank.days(1);
        bank.notice(0, 20);
        bank.days(3);
        Check.due("only that of 10 is in time", bank.may(0, 11, 1), 4);
        bank.days(1);
        Check.due("that of 30 is in time", bank.may(0, 30, 1), 0);
        bank.days(1);
        Check.due("11: the eldest such is that of 30", bank.draw(0, 0, 11, 1), 0);
        Check.due("21 then", bank.may(0, 21, 1), 4);
        Check.due("20 then", bank.may(0, 20, 1), 0);
        Check.due("10: the eldest such is that of 10", bank.draw(0, 0, 10, 1), 0);
        Check.due("20 is left", bank.may(0, 20, 1), 0);
        Check.due("1: that of 20", bank.draw(0, 0, 1, 1), 0);
        Check.due("none is left", bank.may(0, 1, 1), 4);
    }

    private static void theLimit() {
        Check.sentence("3. DRAWING: 5 what was drawn on that day, and this are above N");
        for (int limit : new int[] {1, 50, 99999}) {
            PennyBank bank = with(0, 0, 100000);
            Check.text(bank, "limit " + limit + " when 1;", 0);
            Check.due(limit + " of " + limit, bank.may(0, limit, 1), 0);
            Check.due("more than " + limit, bank.may(0, limit + 1, 1), 5);
            Check.due("draw more than " + limit, bank.draw(0, 0, limit + 1, 1), 5);
            Check.due("draw " + limit, bank.draw(0, 0, limit, 1), 0);
            Check.due("1 more", bank.may(0, 1, 1), 5);
        }
        PennyBank none = with(0, 0, 100);
        Check.text(none, "limit 0 when 1;", 0);
        Check.due("1 of 0", none.may(0, 1, 1), 5);
        PennyBank parts = with(0, 0, 100);
        Check.text(parts, "limit 50 when 1;", 0);
        Check.due("draw 20", parts.draw(0, 0, 20, 1), 0);
        Check.due("31 more", parts.may(0, 31, 1), 5);
        Check.due("30 more", parts.may(0, 30, 1), 0);
    }

    private static void noneWithoutALine() {
        Check.sentence("3. DRAWING: 5 (none without a line)");
        Check.due("no text", with(0, 0, 100000).may(0, 100000, 1), 0);
        String[] texts = {"", "interest 1 when 1;", "limit 0 when 0;", "limit 0 when 1-1; limit 0 when 1<1;"};
        for (String text : texts) {
            PennyBank bank = with(0, 0, 100000);
            Check.text(bank, text, 0);
            Check.due("<" + text + ">", bank.may(0, 100000, 1), 0);
        }
        PennyBank bank = with(0, 0, 100000);
        Check.text(bank, "limit 99999 when 1;", 0);
        Check.due("with a line", bank.may(0, 100000, 1), 5);
    }

    private static void limited(String text, int limit) {
        PennyBank bank = with(0, 0, 100);
        Check.due("<" + text + ">", Check.text(bank, text, 0), 0);
        Check.due("<" + text + "> " + limit, limit == 0 ? 0 : bank.may(0, limit, 1), 0);
        Check.due("<" + text + "> " + (limit + 1), bank.may(0, limit + 1, 1), 5);
    }

    private static void firstLimitNotZero() {
        Check.sentence("3. DRAWING: 5 the first line  limit N when E  whose E is not 0");
        limited("limit 4 when 1; limit 3 when 1;", 4);
        limited("limit 3 when 1; limit 4 when 1;", 3);
        limited("limit 3 when 0; limit 4 when 1;", 4);
        limited("limit 3 when 0-1; limit 4 when 1;", 3);
        limited("limit 3 when 2; limit 4 when 1;", 3);
        limited("limit 0 when 1; limit 4 when 1;", 0);
        limited("interest 2 when 1; limit 4 when 1;", 4);
        limited("limit 3 when 0;".repeat(15) + "limit 4 when 1;", 4);
    }

    private static void drawnOnThatDay() {
        Check.sentence("3. DRAWING: 5 what was drawn on that day, as known NOW");
        PennyBank bank = with(0, 0, 1000);
        bank.account(0, 0);
        bank.post(1, 0, 0, 1000);
        Check.text(bank, "limit 50 when 1;", 0);
        bank.days(8);
        bank.post(0, 0, 7, -9);
        Check.due("the day ahead's does not count", bank.may(0, 50, 1), 0);
        bank.post(1, 0, 8, -9);
        Check.due("another one's does not count", bank.may(0, 50, 1), 0);
        bank.post(0, 0, 8, 9);
        Check.due("what was paid in does not count", bank.may(0, 50, 1), 0);
        bank.post(0, 3, 8, -1);
        Check.due("what was posted as drawn counts: 50", bank.may(0, 50, 1), 5);
        Check.due("what was posted as drawn counts: 49", bank.may(0, 49, 1), 0);
        bank.post(0, 0, 8, -60);
        Check.due("more than the limit was drawn", bank.may(0, 1, 1), 5);
        bank.post(0, 0, 8, 60);
        Check.due("put right by what is paid in: it was drawn", bank.may(0, 1, 1), 5);
        bank.days(1);
        Check.due("the next day: 50", bank.may(0, 50, 1), 0);
        Check.due("the next day: 51", bank.may(0, 51, 1), 5);
    }

    private static void firstAndLastEntry() {
        Check.sentence("3. DRAWING: 5 what was drawn on that day (ENTRIES, 400 at most)");
        PennyBank bank = new PennyBank();
        bank.account(0, 0);
        Check.text(bank, "limit 50 when 1;", 0);
        bank.post(0, 0, 0, -7);
        for (int i = 1; i < 399; i++) {
            bank.post(0, 0, 0, 1);
        }
        Check.due("44 behind the first", bank.may(0, 44, 1), 5);
        Check.due("43 behind the first", bank.may(0, 43, 1), 0);
        bank.post(0, 0, 0, -3);
        Check.due("41 behind the 400th", bank.may(0, 41, 1), 5);
        Check.due("40 behind the 400th", bank.may(0, 40, 1), 0);
    }

    /** Of a limit 0 that holds for an account with so much at the end of a day, on the next one. */
    private static int withBase(int sum, String test) {
        PennyBank bank = new PennyBank();
        bank.account(0, 0);
        bank.post(0, 0, 0, sum);
        bank.days(1);
        bank.post(0, 0, 1, 100000);
        bank.post(0, 0, 1, 100000);
        Check.text(bank, "limit 0 when " + test + ";", 0);
        return bank.may(0, 1, 1);
    }

    private static void dayAhead() {
        Check.sentence("2. TEXTS: base (of limit: the BALANCE at the end of the day ahead / 240)");
        Check.due("239", withBase(239, "base = 0"), 5);
        Check.due("240 is not 0", withBase(240, "base = 0"), 0);
        Check.due("240", withBase(240, "base = 1"), 5);
        Check.due("479", withBase(479, "base = 1"), 5);
        Check.due("480", withBase(480, "base = 2"), 5);
        PennyBank first = with(0, 0, 5000);
        Check.text(first, "limit 0 when base = 0;", 0);
        Check.due("nothing is ahead of day 0", first.may(0, 1, 1), 5);
        PennyBank bank = with(0, 0, 479);
        Check.text(bank, "interest 100 when 1; limit 1 when base = 1; limit 2 when base = 2;", 0);
        bank.days(30);
        Check.due("the month's last day, without its interest", bank.may(0, 2, 1), 5);
        bank.days(1);
        Check.due("the day behind, with it", bank.may(0, 2, 1), 0);
        Check.due("up to it", bank.may(0, 3, 1), 5);
        bank.post(0, 0, 30, -1);
        Check.due("as known NOW", bank.may(0, 2, 1), 5);
    }

    private static void zeroAtLeast() {
        Check.sentence("2. TEXTS: base (of limit .. 0 at least)");
        for (int sum : new int[] {-1, -239, -240, -241, -480, -100000}) {
            Check.due(sum + " is 0", withBase(sum, "base = 0"), 5);
            Check.due(sum + " is not below 0", withBase(sum, "base < 0"), 0);
        }
    }

    private static void wordsOfLimits() {
        Check.sentence("2. TEXTS: age; month: day / 30; day: the day of the MONTH");
        int[] days = {0, 1, 29, 30, 31, 59, 60, 199};
        for (int day : days) {
            String[] tests = {"age = " + day, "month = " + day / 30, "day = " + day % 30, "kind = 2"};
            for (String test : tests) {
                PennyBank bank = with(2, 0, 100);
                bank.days(day);
                Check.text(bank, "limit 3 when " + test + ";", day);
                Check.due(test + " on day " + day + ": 3", bank.may(0, 3, 3), 0);
                Check.due(test + " on day " + day + ": 4", bank.may(0, 4, 3), 5);
            }
        }
        PennyBank last = with(0, 0, 100);
        Check.text(last, "limit 3 when month = 23 and day = 29 and age = 719;", 0);
        Check.passTo(last, 718);
        Check.due("the last day but one", last.may(0, 4, 1), 0);
        last.days(1);
        Check.due("the last day", last.may(0, 4, 1), 5);
    }

    private static void noSuchBranch() {
        Check.sentence("Promise 10: 6: no such BRANCH");
        PennyBank bank = with(0, 0, 100);
        for (int branch : Check.beside(0, 3)) {
            Check.due("draw at " + branch, bank.draw(0, branch, 5, 1), 6);
        }
        Check.due("nothing is drawn", bank.count(1), 1);
        Check.due("nothing is missing", bank.balance(0, 0, 0), 100);
        for (int branch = 0; branch <= 3; branch++) {
            Check.due("draw at " + branch, bank.draw(0, branch, 5 + branch, 1), 0);
            Check.due("coin of " + branch, bank.coin(branch), (branch == 0 ? 100 : 0) - 5 - branch);
        }
    }

    private static void noRoomForTheDraw() {
        Check.sentence("Promise 10: 6: 400 ENTRIES are there");
        PennyBank bank = with(3, 0, 1000);
        bank.notice(0, 10);
        bank.notice(0, 9);
        for (int i = 1; i < 399; i++) {
            bank.post(0, 0, 0, 1);
        }
        Check.due("the 400th", bank.draw(0, 0, 10, 1), 0);
        Check.due("the 401st", bank.draw(0, 0, 9, 1), 6);
        Check.due("400 are there", bank.count(1), 400);
        Check.due("nothing is missing", bank.balance(0, 0, 0), 1388);
        Check.due("nor at the branch", bank.coin(0), 1388);
        Check.due("its notice is not used", bank.may(0, 9, 1), 0);
        Check.due("the reasons go ahead", bank.draw(0, 0, 10, 1), 4);
    }

    private static void theFirstReason() {
        Check.sentence("3. DRAWING: 0, or the first of");
        PennyBank bank = new PennyBank();
        bank.account(3, 0);
        Check.text(bank, "limit 0 when day = 0;", 0);
        Check.due("1 ahead of 2", bank.may(0, 0, 0), 1);
        Check.due("2 ahead of 3", bank.may(0, 1, 0), 2);
        bank.post(0, 0, 0, 10);
        Check.due("3 ahead of 4", bank.may(0, 1, 0), 3);
        Check.due("4 ahead of 5", bank.may(0, 1, 1), 4);
        bank.notice(0, 5);
        Check.due("5 is left", bank.may(0, 1, 1), 5);
        Check.due("5 ahead of 6", bank.draw(0, 4, 1, 1), 5);
        bank.days(1);
        Check.due("none is left", bank.may(0, 1, 1), 0);
        Check.due("6 is left", bank.draw(0, 4, 1, 1), 6);
        Check.due("no reason", bank.draw(0, 3, 1, 1), 0);
    }

    private static void noticesTaken() {
        Check.sentence("Promise 11: A notice of a sum (1 .. 100000); false: no such sum");
        PennyBank bank = with(3, 0, 100000);
        for (int sum : Check.beside(1, 100000)) {
            Check.due("notice of " + sum, bank.notice(0, sum), false);
        }
        Check.due("notice of -1", bank.notice(0, -1), false);
        Check.due("none was given", bank.count(4), 0);
        Check.due("none may be drawn on", bank.may(0, 1, 1), 4);
        Check.due("notice of 1", bank.notice(0, 1), true);
        Check.due("1 may be drawn", bank.may(0, 1, 1), 0);
        Check.due("2 may not", bank.may(0, 2, 1), 4);
        Check.due("notice of 100000", bank.notice(0, 100000), true);
        Check.due("100000 may be drawn", bank.may(0, 100000, 1), 0);
        Check.due("two were given", bank.count(4), 2);
    }

    private static void noticesOfKind() {
        Check.sentence("Promise 11: false: no such ACCOUNT of kind 3");
        PennyBank bank = new PennyBank();
        Check.due("no account", bank.notice(0, 5), false);
        for (int kind = 0; kind <= 3; kind++) {
            bank.account(kind, 0);
            Check.due("kind " + kind, bank.notice(kind, 5), kind == 3);
        }
        for (int account : Check.beside(0, 3)) {
            Check.due("account " + account, bank.notice(account, 5), false);
        }
        Check.due("one was given", bank.count(4), 1);
    }

    private static void sixtyWereGiven() {
        Check.sentence("Promise 11: false: 60 were given");
        PennyBank bank = with(3, 0, 1000);
        bank.account(3, 0);
        bank.post(1, 0, 0, 1000);
        for (int i = 0; i < 59; i++) {
            Check.due("notice " + i, bank.notice(i % 2, 5), true);
            Check.due("a refused one does not count", bank.notice(0, 0), false);
        }
        Check.due("used ones count", bank.draw(0, 0, 1, 1), 0);
        Check.due("59 were given", bank.count(4), 59);
        Check.due("the 60th", bank.notice(1, 70), true);
        Check.due("a 61st", bank.notice(1, 80), false);
        Check.due("a 61st of another", bank.notice(0, 80), false);
        Check.due("60 were given", bank.count(4), 60);
        Check.due("the 60th counts", bank.may(1, 70, 1), 0);
        Check.due("the 61st does not", bank.may(1, 71, 1), 4);
        Check.due("nor does it for another", bank.may(0, 6, 1), 4);
        Check.due("the 60th is used", bank.draw(1, 0, 70, 1), 0);
        Check.due("once", bank.may(1, 70, 1), 4);
        Check.due("the others are left", bank.may(1, 5, 1), 0);
    }
}
