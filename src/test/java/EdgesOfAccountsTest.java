/** The boundary cases that the document names of a new object, account, days and count. */
public final class EdgesOfAccountsTest {
    public static void main(String[] args) {
        noAccountAtFirst();
        nowIsZeroAtFirst();
        noSuchKind();
        theDayAndTheDays();
        withIsNotLookedAt();
        twentyAreThere();
        openedNow();
        anotherNumberOfDays();
        beyondTheLastDay();
        anotherWhat();
        Check.end();
    }

    private static void noAccountAtFirst() {
        Check.sentence("Promise 1: No ACCOUNT");
        PennyBank bank = new PennyBank();
        Check.due("count(0) of a new object", bank.count(0), 0);
        Check.due("post without an account", bank.post(0, 0, 0, 1), -1);
        Check.due("may without an account", bank.may(0, 1, 1), 1);
        Check.noSuch("balance without an account", () -> bank.balance(0, 0, 0));
        Check.due("the first account", bank.account(0, 0), 0);
        Check.due("count(0) with it", bank.count(0), 1);
        Check.due("post with it", bank.post(0, 0, 0, 1), 0);
        Check.due("may with it", bank.may(0, 1, 1), 0);
        Check.due("balance with it", bank.balance(0, 0, 0), 1);
    }

    private static void nowIsZeroAtFirst() {
        Check.sentence("Promise 1: NOW is 0");
        PennyBank bank = new PennyBank();
        bank.account(0, 0);
        Check.due("count(2)", bank.count(2), 0);
        Check.due("an entry of day 1", bank.post(0, 0, 1, 5), -1);
        Check.due("an entry of day 0", bank.post(0, 0, 0, 5), 0);
        Check.noSuch("known on day 1", () -> bank.balance(0, 0, 1));
        Check.due("known on day 0", bank.balance(0, 0, 0), 5);
    }

    private static void noSuchKind() {
        Check.sentence("Promise 2: NONE: no such kind");
        PennyBank bank = new PennyBank();
        for (int kind : Check.beside(0, 3)) {
            Check.due("account(" + kind + ", 5)", bank.account(kind, 5), -1);
        }
        Check.due("none is there", bank.count(0), 0);
        for (int kind = 0; kind <= 3; kind++) {
            Check.due("account(" + kind + ", 5)", bank.account(kind, 5), kind);
        }
    }

    private static void theDayAndTheDays() {
        Check.sentence("Promise 2: with: the day, the days of 1, 3; 0 .. 719; NONE: other numbers");
        PennyBank bank = new PennyBank();
        for (int kind = 1; kind <= 3; kind += 2) {
            for (int with : Check.beside(0, 719)) {
                Check.due("account(" + kind + ", " + with + ")", bank.account(kind, with), -1);
            }
        }
        Check.due("none is there", bank.count(0), 0);
        Check.due("account(1, 0)", bank.account(1, 0), 0);
        Check.due("account(1, 719)", bank.account(1, 719), 1);
        Check.due("account(3, 0)", bank.account(3, 0), 2);
        Check.due("account(3, 719)", bank.account(3, 719), 3);
    }

    private static void withIsNotLookedAt() {
        Check.sentence("Promise 2: else not looked at");
        PennyBank bank = new PennyBank();
        int due = 0;
        for (int kind = 0; kind <= 2; kind += 2) {
            for (int with : Check.beside(0, 719)) {
                Check.due("account(" + kind + ", " + with + ")", bank.account(kind, with), due);
                due++;
            }
        }
    }

    private static void twentyAreThere() {
        Check.sentence("Promise 2: NONE: 20 are there");
        PennyBank bank = new PennyBank();
        for (int i = 0; i < 19; i++) {
            Check.due("account " + i, bank.account(i % 4, i), i);
            Check.due("a refused one takes no number", bank.account(4, 0), -1);
        }
        Check.due("the 20th is not there yet", bank.post(19, 0, 0, 1), -1);
        Check.due("the 20th", bank.account(0, 0), 19);
        Check.due("the 20th is there", bank.post(19, 0, 0, 1), 0);
        for (int kind = 0; kind <= 3; kind++) {
            Check.due("a 21st of kind " + kind, bank.account(kind, 0), -1);
        }
        Check.due("no 21st is there", bank.post(20, 0, 0, 1), -1);
        Check.due("count(0)", bank.count(0), 20);
    }

    private static void openedNow() {
        Check.sentence("Promise 2: opened NOW");
        PennyBank bank = new PennyBank();
        Check.text(bank, "limit 0 when age = 0; limit 1 when age = 1;", 0);
        bank.days(5);
        bank.account(0, 0);
        bank.post(0, 0, 5, 100);
        Check.due("on the day", bank.may(0, 1, 1), 5);
        bank.days(1);
        Check.due("1, a day later", bank.may(0, 1, 1), 0);
        Check.due("2, a day later", bank.may(0, 2, 1), 5);
        bank.days(1);
        Check.due("2, two days later", bank.may(0, 2, 1), 0);
    }

    private static void anotherNumberOfDays() {
        Check.sentence("Promise 3: n days pass (0 .. 200); NONE: another n");
        PennyBank bank = new PennyBank();
        for (int n : Check.beside(0, 200)) {
            Check.due("days(" + n + ")", bank.days(n), -1);
            Check.due("NOW behind it", bank.count(2), 0);
        }
        Check.due("days(0)", bank.days(0), 0);
        Check.due("days(1)", bank.days(1), 1);
        Check.due("days(200)", bank.days(200), 201);
        Check.due("days(0) then", bank.days(0), 201);
        for (int n : Check.beside(0, 200)) {
            Check.due("days(" + n + ") then", bank.days(n), -1);
            Check.due("NOW behind it", bank.count(2), 201);
        }
    }

    private static PennyBank onDay(int day) {
        PennyBank bank = new PennyBank();
        Check.passTo(bank, day);
        return bank;
    }

    private static void beyondTheLastDay() {
        Check.sentence("Promise 3: NONE: beyond 719");
        Check.due("200 from 519", onDay(519).days(200), 719);
        PennyBank bank = onDay(520);
        Check.due("200 from 520", bank.days(200), -1);
        Check.due("NOW is the same", bank.count(2), 520);
        Check.due("199 from 520", bank.days(199), 719);
        Check.due("1 from 719", bank.days(1), -1);
        Check.due("200 from 719", bank.days(200), -1);
        Check.due("0 from 719", bank.days(0), 719);
        Check.due("1 from 718", onDay(718).days(1), 719);
        Check.due("2 from 718", onDay(718).days(2), -1);
    }

    private static void anotherWhat() {
        Check.sentence("Promise 21: NONE for another what");
        PennyBank bank = new PennyBank();
        bank.account(0, 0);
        bank.account(0, 0);
        bank.night(0, 9);
        for (int what : Check.beside(0, 7)) {
            Check.due("count(" + what + ")", bank.count(what), -1);
        }
        Check.due("count(0)", bank.count(0), 2);
        for (int what = 1; what <= 6; what++) {
            Check.due("count(" + what + ")", bank.count(what), 0);
        }
        Check.due("count(7)", bank.count(7), 9);
    }
}
