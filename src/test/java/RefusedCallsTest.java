import java.util.ArrayList;
import java.util.List;
import java.util.NoSuchElementException;
import java.util.function.ToIntFunction;

/** A call that is refused changes nothing: a bank behind it answers as one like it that had no such call. */
public final class RefusedCallsTest {
    private static final int THROWN = Integer.MIN_VALUE + 7;
    private static final int NOW = 65;

    private static List<Integer> undisturbed;

    public static void main(String[] args) {
        undisturbed = answersOf(busyBank());
        refusedByNone();
        refusedByReason();
        refusedByException();
        refusedTexts();
        questions();
        Check.end();
    }

    /** A bank that has some of everything; account 0 is plain, 1 a minor's, 2 a club's, 3 one of notice. */
    private static PennyBank busyBank() {
        PennyBank bank = new PennyBank();
        Check.text(bank, "interest 100 when 1; limit 90 when kind = 0;", 0);
        for (int kind = 0; kind <= 3; kind++) {
            bank.account(kind, 70);
            bank.post(kind, kind, 0, 1000 + 240 * kind);
        }
        bank.account(3, 5);
        bank.post(4, 1, 0, 500);
        bank.notice(4, 40);
        bank.notice(4, 60);
        bank.days(NOW);
        bank.draw(0, 0, 30, 1);
        bank.write(0, 0, 1000);
        bank.write(0, 65, -31);
        bank.settle(2);
        bank.night(2, 1400);
        bank.holding(50, 0);
        bank.holding(50, 1);
        bank.need(1, 60);
        bank.best();
        bank.need(2, 41);
        Check.feed(bank, "limit 7 when ");
        return bank;
    }

    /** What can be seen of a bank, by questions first and then by calls that change it. */
    private static List<Integer> answersOf(PennyBank bank) {
        List<Integer> answers = new ArrayList<>();
        for (int what = 0; what <= 7; what++) {
            answers.add(bank.count(what));
        }
        for (int account = 0; account < 5; account++) {
            answers.add(bank.balance(account, 719, NOW));
            answers.add(bank.interest(account, 1, NOW));
            for (int what = 0; what <= 2; what++) {
                answers.add(bank.compare(account, what));
            }
            for (int sum = 39; sum <= 61; sum++) {
                answers.add(bank.may(account, sum, 11));
            }
            answers.add(bank.settle(account));
            answers.add(bank.write(account, 0, 1));
        }
        for (int branch = 0; branch <= 3; branch++) {
            answers.add(bank.coin(branch));
        }
        answers.add(bank.sold(0));
        answers.add(bank.sold(1));
        answers.add(bank.best());
        answers.add(bank.sold(0));
        answers.add(bank.sold(1));
        answers.add(bank.draw(4, 0, 60, 1));
        answers.add(bank.draw(4, 0, 40, 1));
        answers.add(bank.draw(0, 0, 61, 1));
        answers.add(bank.draw(0, 0, 60, 1));
        answers.add(bank.post(0, 0, NOW, 1));
        answers.add(bank.account(0, 0));
        answers.add(bank.holding(1, 0));
        answers.add(Check.feed(bank, "1;"));
        answers.add(bank.text(NOW));
        answers.add(bank.may(1, 8, 8));
        answers.add(bank.days(1));
        return answers;
    }

    private static int answerOf(PennyBank bank, ToIntFunction<PennyBank> call) {
        try {
            return call.applyAsInt(bank);
        } catch (NoSuchElementException e) {
            return THROWN;
        }
    }

    private static void changesNothing(String call, int due, ToIntFunction<PennyBank> refused) {
        PennyBank bank = busyBank();
        Check.due(call, answerOf(bank, refused), due);
        Check.due(call + " twice", answerOf(bank, refused), due);
        List<Integer> answers = answersOf(bank);
        for (int i = 0; i < answers.size(); i++) {
            Check.due("answer " + i + " behind " + call, answers.get(i), undisturbed.get(i));
        }
    }

    private static void refusedByNone() {
        Check.sentence("Promises 2, 3, 4, 11, 12, 17, 18: what is refused changes nothing");
        for (int kind : Check.beside(0, 3)) {
            changesNothing("account(" + kind + ", 0)", -1, bank -> bank.account(kind, 0));
        }
        for (int with : Check.beside(0, 719)) {
            changesNothing("account(1, " + with + ")", -1, bank -> bank.account(1, with));
            changesNothing("account(3, " + with + ")", -1, bank -> bank.account(3, with));
            changesNothing("write(0, " + with + ", 1)", -1, bank -> bank.write(0, with, 1));
        }
        for (int n : Check.beside(0, 200)) {
            changesNothing("days(" + n + ")", -1, bank -> bank.days(n));
        }
        for (int account : Check.beside(0, 4)) {
            changesNothing("post to " + account, -1, bank -> bank.post(account, 0, 0, 1));
            changesNothing("notice of " + account, 0, bank -> bank.notice(account, 1) ? 1 : 0);
            changesNothing("write to " + account, -1, bank -> bank.write(account, 0, 1));
        }
        for (int branch : Check.beside(0, 3)) {
            changesNothing("post at " + branch, -1, bank -> bank.post(0, branch, 0, 1));
        }
        for (int day : Check.beside(0, NOW)) {
            changesNothing("post of day " + day, -1, bank -> bank.post(0, 0, day, 1));
        }
        for (int sum : Check.beside(-100000, 100000)) {
            changesNothing("post of " + sum, -1, bank -> bank.post(0, 0, 0, sum));
            changesNothing("notice of " + sum, 0, bank -> bank.notice(4, sum) ? 1 : 0);
        }
        changesNothing("post of 0", -1, bank -> bank.post(0, 0, 0, 0));
        changesNothing("notice of 0", 0, bank -> bank.notice(4, 0) ? 1 : 0);
        changesNothing("notice of a plain one", 0, bank -> bank.notice(0, 1) ? 1 : 0);
        for (int price : Check.beside(1, 10000)) {
            changesNothing("holding(" + price + ", 0)", -1, bank -> bank.holding(price, 0));
        }
        for (int change : Check.beside(0, 1999)) {
            changesNothing("holding(5, " + change + ")", -1, bank -> bank.holding(5, change));
        }
        for (int week : Check.beside(0, 5)) {
            changesNothing("need(" + week + ", 9)", 0, bank -> bank.need(week, 9) ? 1 : 0);
        }
        for (int sum : Check.beside(0, 60000)) {
            changesNothing("need(1, " + sum + ")", 0, bank -> bank.need(1, sum) ? 1 : 0);
        }
    }

    private static void refusedByReason() {
        Check.sentence("Promise 10: it is drawn if it may be; why not; 6");
        for (int account : Check.beside(0, 4)) {
            changesNothing("draw of " + account, 1, bank -> bank.draw(account, 0, 1, 15));
        }
        for (int sum : Check.beside(1, 100000)) {
            changesNothing("draw of " + sum, 1, bank -> bank.draw(0, 0, sum, 15));
        }
        changesNothing("draw of too much", 2, bank -> bank.draw(4, 0, 505, 15));
        changesNothing("draw without a signer", 3, bank -> bank.draw(4, 0, 1, 14));
        changesNothing("draw without a notice", 4, bank -> bank.draw(4, 0, 61, 15));
        changesNothing("draw above the limit", 5, bank -> bank.draw(0, 0, 61, 15));
        for (int branch : Check.beside(0, 3)) {
            changesNothing("draw at " + branch, 6, bank -> bank.draw(4, branch, 1, 15));
        }
    }

    private static void refusedByException() {
        Check.sentence("Promises 7, 8, 14, 15, 16: NoSuchElementException");
        for (int account : Check.beside(0, 4)) {
            changesNothing("settle(" + account + ")", THROWN, bank -> bank.settle(account));
            changesNothing("balance of " + account, THROWN, bank -> bank.balance(account, 0, 0));
            changesNothing("interest of " + account, THROWN, bank -> bank.interest(account, 0, 0));
        }
        for (int branch : Check.beside(0, 3)) {
            changesNothing("night(" + branch + ", 0)", THROWN, bank -> bank.night(branch, 0));
            changesNothing("coin(" + branch + ")", THROWN, bank -> bank.coin(branch));
        }
        for (int counted : Check.beside(0, 10000000)) {
            changesNothing("night(2, " + counted + ")", THROWN, bank -> bank.night(2, counted));
        }
    }

    /** The tape is empty behind these, so they are held against an empty text of a day that is refused. */
    private static void refusedTexts() {
        Check.sentence("Promise 6: its FAULT; -1 .. (the TAPE is empty then, too)");
        PennyBank emptied = busyBank();
        emptied.text(-1);
        List<Integer> due = answersOf(emptied);
        Check.due("the tape", due.get(6), 0);
        for (int day : new int[] {Integer.MIN_VALUE, -1, 0, 1, 719, 720, Integer.MAX_VALUE}) {
            PennyBank bank = busyBank();
            Check.due("text(" + day + ")", bank.text(day), day < 1 || day > 719 ? -1 : 1 + 16 * 13);
            List<Integer> answers = answersOf(bank);
            for (int i = 0; i < answers.size(); i++) {
                Check.due("answer " + i + " behind text(" + day + ")", answers.get(i), due.get(i));
            }
        }
    }

    private static void questions() {
        Check.sentence("Promises 7, 8, 9, 13, 16, 20, 21: what is asked changes nothing");
        PennyBank asked = busyBank();
        int balance = asked.balance(4, NOW, NOW);
        int earned = asked.interest(4, 0, 0);
        Check.due("the balance", balance, 504);
        Check.due("the interest", earned, 2);
        changesNothing("balance", balance, bank -> bank.balance(4, NOW, NOW));
        changesNothing("interest", earned, bank -> bank.interest(4, 0, 0));
        changesNothing("may", 0, bank -> bank.may(4, 60, 1));
        changesNothing("compare", 1, bank -> bank.compare(0, 0));
        changesNothing("coin", 1400, bank -> bank.coin(2));
        changesNothing("sold", 1, bank -> bank.sold(0));
        changesNothing("sold of another", -1, bank -> bank.sold(2));
        changesNothing("count", 6, bank -> bank.count(1));
        changesNothing("count of another", -1, bank -> bank.count(8));
        changesNothing("feed of nothing", 13, bank -> bank.feed(0, 0, 0));
        changesNothing("days(0)", NOW, bank -> bank.days(0));
    }
}
